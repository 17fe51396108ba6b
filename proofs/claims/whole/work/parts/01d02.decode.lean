theorem dX6_openBy_74 : decode cX6_openBy 74 = .ok (.aload_n 0, 1) := by decide +kernel
theorem dX6_openBy_75 : decode cX6_openBy 75 = .ok (.getfield 34, 3) := by decide +kernel
theorem dX6_openBy_78 : decode cX6_openBy 78 = .ok (.iconst (-1), 1) := by decide +kernel
theorem dX6_openBy_79 : decode cX6_openBy 79 = .ok (.ixor, 1) := by decide +kernel
theorem dX6_openBy_80 : decode cX6_openBy 80 = .ok (.iand, 1) := by decide +kernel
theorem dX6_openBy_81 : decode cX6_openBy 81 = .ok (.aload_n 0, 1) := by decide +kernel
theorem dX6_openBy_82 : decode cX6_openBy 82 = .ok (.getfield 43, 3) := by decide +kernel
theorem dX6_openBy_85 : decode cX6_openBy 85 = .ok (.iconst (-1), 1) := by decide +kernel
theorem dX6_openBy_86 : decode cX6_openBy 86 = .ok (.ixor, 1) := by decide +kernel
theorem dX6_openBy_87 : decode cX6_openBy 87 = .ok (.iand, 1) := by decide +kernel
theorem dX6_openBy_88 : decode cX6_openBy 88 = .ok (.ireturn, 1) := by decide +kernel
theorem dX6_openBy_89 : decode cX6_openBy 89 = .ok (.iload_n 2, 1) := by decide +kernel
theorem dX6_openBy_90 : decode cX6_openBy 90 = .ok (.aload_n 0, 1) := by decide +kernel
theorem dX6_openBy_91 : decode cX6_openBy 91 = .ok (.iload_n 1, 1) := by decide +kernel
theorem dX6_openBy_92 : decode cX6_openBy 92 = .ok (.invokevirtual 68, 3) := by decide +kernel
theorem dX6_openBy_95 : decode cX6_openBy 95 = .ok (.iconst (-1), 1) := by decide +kernel
theorem dX6_openBy_96 : decode cX6_openBy 96 = .ok (.ixor, 1) := by decide +kernel
theorem dX6_openBy_97 : decode cX6_openBy 97 = .ok (.iand, 1) := by decide +kernel
theorem dX6_openBy_98 : decode cX6_openBy 98 = .ok (.ireturn, 1) := by decide +kernel
theorem dX6_openBy_99 : decode cX6_openBy 99 = .ok (.aload_n 0, 1) := by decide +kernel
theorem dX6_openBy_100 : decode cX6_openBy 100 = .ok (.iload_n 2, 1) := by decide +kernel
theorem dX6_openBy_101 : decode cX6_openBy 101 = .ok (.aload_n 0, 1) := by decide +kernel
theorem dX6_openBy_102 : decode cX6_openBy 102 = .ok (.iload_n 1, 1) := by decide +kernel
theorem dX6_openBy_103 : decode cX6_openBy 103 = .ok (.invokevirtual 72, 3) := by decide +kernel
theorem dX6_openBy_106 : decode cX6_openBy 106 = .ok (.invokevirtual 75, 3) := by decide +kernel
theorem dX6_openBy_109 : decode cX6_openBy 109 = .ok (.ireturn, 1) := by decide +kernel
theorem dX6_openBy_110 : decode cX6_openBy 110 = .ok (.iload_n 2, 1) := by decide +kernel
theorem dX6_openBy_111 : decode cX6_openBy 111 = .ok (.aload_n 0, 1) := by decide +kernel
theorem dX6_openBy_112 : decode cX6_openBy 112 = .ok (.iload_n 1, 1) := by decide +kernel
theorem dX6_openBy_113 : decode cX6_openBy 113 = .ok (.invokevirtual 72, 3) := by decide +kernel
theorem dX6_openBy_116 : decode cX6_openBy 116 = .ok (.iconst (-1), 1) := by decide +kernel
theorem dX6_openBy_117 : decode cX6_openBy 117 = .ok (.ixor, 1) := by decide +kernel
theorem dX6_openBy_118 : decode cX6_openBy 118 = .ok (.iand, 1) := by decide +kernel
theorem dX6_openBy_119 : decode cX6_openBy 119 = .ok (.aload_n 0, 1) := by decide +kernel
theorem dX6_openBy_120 : decode cX6_openBy 120 = .ok (.getfield 34, 3) := by decide +kernel
theorem dX6_openBy_123 : decode cX6_openBy 123 = .ok (.iconst (-1), 1) := by decide +kernel
theorem dX6_openBy_124 : decode cX6_openBy 124 = .ok (.ixor, 1) := by decide +kernel
theorem dX6_openBy_125 : decode cX6_openBy 125 = .ok (.iand, 1) := by decide +kernel
theorem dX6_openBy_126 : decode cX6_openBy 126 = .ok (.aload_n 0, 1) := by decide +kernel
theorem dX6_openBy_127 : decode cX6_openBy 127 = .ok (.getfield 38, 3) := by decide +kernel
theorem dX6_openBy_130 : decode cX6_openBy 130 = .ok (.iconst (-1), 1) := by decide +kernel
theorem dX6_openBy_131 : decode cX6_openBy 131 = .ok (.ixor, 1) := by decide +kernel
theorem dX6_openBy_132 : decode cX6_openBy 132 = .ok (.iand, 1) := by decide +kernel
theorem dX6_openBy_133 : decode cX6_openBy 133 = .ok (.ireturn, 1) := by decide +kernel
theorem dX6_openBy_134 : decode cX6_openBy 134 = .ok (.iload_n 2, 1) := by decide +kernel
theorem dX6_openBy_135 : decode cX6_openBy 135 = .ok (.aload_n 0, 1) := by decide +kernel
theorem dX6_openBy_136 : decode cX6_openBy 136 = .ok (.iload_n 1, 1) := by decide +kernel
theorem dX6_openBy_137 : decode cX6_openBy 137 = .ok (.invokevirtual 72, 3) := by decide +kernel
theorem dX6_openBy_140 : decode cX6_openBy 140 = .ok (.iconst (-1), 1) := by decide +kernel
theorem dX6_openBy_141 : decode cX6_openBy 141 = .ok (.ixor, 1) := by decide +kernel
theorem dX6_openBy_142 : decode cX6_openBy 142 = .ok (.iand, 1) := by decide +kernel
theorem dX6_openBy_143 : decode cX6_openBy 143 = .ok (.aload_n 0, 1) := by decide +kernel
theorem dX6_openBy_144 : decode cX6_openBy 144 = .ok (.getfield 34, 3) := by decide +kernel
theorem dX6_openBy_147 : decode cX6_openBy 147 = .ok (.iconst (-1), 1) := by decide +kernel
theorem dX6_openBy_148 : decode cX6_openBy 148 = .ok (.ixor, 1) := by decide +kernel
theorem dX6_openBy_149 : decode cX6_openBy 149 = .ok (.iand, 1) := by decide +kernel
theorem dX6_openBy_150 : decode cX6_openBy 150 = .ok (.ireturn, 1) := by decide +kernel
theorem dX6_openToGreedy_0 : decode cX6_openToGreedy 0 = .ok (.iload_n 1, 1) := by decide +kernel
theorem dX6_openToGreedy_1 : decode cX6_openToGreedy 1 = .ok (.iload_n 2, 1) := by decide +kernel
theorem dX6_openToGreedy_2 : decode cX6_openToGreedy 2 = .ok (.iconst (-1), 1) := by decide +kernel
theorem dX6_openToGreedy_3 : decode cX6_openToGreedy 3 = .ok (.ixor, 1) := by decide +kernel
theorem dX6_openToGreedy_4 : decode cX6_openToGreedy 4 = .ok (.iand, 1) := by decide +kernel
theorem dX6_openToGreedy_5 : decode cX6_openToGreedy 5 = .ok (.aload_n 0, 1) := by decide +kernel
theorem dX6_openToGreedy_6 : decode cX6_openToGreedy 6 = .ok (.iload_n 2, 1) := by decide +kernel
theorem dX6_openToGreedy_7 : decode cX6_openToGreedy 7 = .ok (.invokevirtual 72, 3) := by decide +kernel
theorem dX6_openToGreedy_10 : decode cX6_openToGreedy 10 = .ok (.iconst (-1), 1) := by decide +kernel
theorem dX6_openToGreedy_11 : decode cX6_openToGreedy 11 = .ok (.ixor, 1) := by decide +kernel
theorem dX6_openToGreedy_12 : decode cX6_openToGreedy 12 = .ok (.iand, 1) := by decide +kernel
theorem dX6_openToGreedy_13 : decode cX6_openToGreedy 13 = .ok (.aload_n 0, 1) := by decide +kernel
theorem dX6_openToGreedy_14 : decode cX6_openToGreedy 14 = .ok (.getfield 34, 3) := by decide +kernel
theorem dX6_openToGreedy_17 : decode cX6_openToGreedy 17 = .ok (.iconst (-1), 1) := by decide +kernel
theorem dX6_openToGreedy_18 : decode cX6_openToGreedy 18 = .ok (.ixor, 1) := by decide +kernel
theorem dX6_openToGreedy_19 : decode cX6_openToGreedy 19 = .ok (.iand, 1) := by decide +kernel
theorem dX6_openToGreedy_20 : decode cX6_openToGreedy 20 = .ok (.aload_n 0, 1) := by decide +kernel
theorem dX6_openToGreedy_21 : decode cX6_openToGreedy 21 = .ok (.getfield 43, 3) := by decide +kernel
theorem dX6_openToGreedy_24 : decode cX6_openToGreedy 24 = .ok (.iconst (-1), 1) := by decide +kernel
theorem dX6_openToGreedy_25 : decode cX6_openToGreedy 25 = .ok (.ixor, 1) := by decide +kernel
theorem dX6_openToGreedy_26 : decode cX6_openToGreedy 26 = .ok (.iand, 1) := by decide +kernel
theorem dX6_openToGreedy_27 : decode cX6_openToGreedy 27 = .ok (.ireturn, 1) := by decide +kernel
theorem dX6_likeAnyOf_0 : decode cX6_likeAnyOf 0 = .ok (.iconst 0, 1) := by decide +kernel
theorem dX6_likeAnyOf_1 : decode cX6_likeAnyOf 1 = .ok (.istore_n 2, 1) := by decide +kernel
theorem dX6_likeAnyOf_2 : decode cX6_likeAnyOf 2 = .ok (.iconst 0, 1) := by decide +kernel
theorem dX6_likeAnyOf_3 : decode cX6_likeAnyOf 3 = .ok (.istore_n 3, 1) := by decide +kernel
theorem dX6_likeAnyOf_4 : decode cX6_likeAnyOf 4 = .ok (.iload_n 3, 1) := by decide +kernel
theorem dX6_likeAnyOf_5 : decode cX6_likeAnyOf 5 = .ok (.aload_n 0, 1) := by decide +kernel
theorem dX6_likeAnyOf_6 : decode cX6_likeAnyOf 6 = .ok (.getfield 17, 3) := by decide +kernel
theorem dX6_likeAnyOf_9 : decode cX6_likeAnyOf 9 = .ok (.arraylength, 1) := by decide +kernel
theorem dX6_likeAnyOf_10 : decode cX6_likeAnyOf 10 = .ok (.if_icmp .ge 26, 3) := by decide +kernel
theorem dX6_likeAnyOf_13 : decode cX6_likeAnyOf 13 = .ok (.iload_n 1, 1) := by decide +kernel
theorem dX6_likeAnyOf_14 : decode cX6_likeAnyOf 14 = .ok (.iload_n 3, 1) := by decide +kernel
theorem dX6_likeAnyOf_15 : decode cX6_likeAnyOf 15 = .ok (.ishr, 1) := by decide +kernel
theorem dX6_likeAnyOf_16 : decode cX6_likeAnyOf 16 = .ok (.iconst 1, 1) := by decide +kernel
theorem dX6_likeAnyOf_17 : decode cX6_likeAnyOf 17 = .ok (.iand, 1) := by decide +kernel
theorem dX6_likeAnyOf_18 : decode cX6_likeAnyOf 18 = .ok (.ifCond .eq 12, 3) := by decide +kernel
theorem dX6_likeAnyOf_21 : decode cX6_likeAnyOf 21 = .ok (.iload_n 2, 1) := by decide +kernel
theorem dX6_likeAnyOf_22 : decode cX6_likeAnyOf 22 = .ok (.aload_n 0, 1) := by decide +kernel
theorem dX6_likeAnyOf_23 : decode cX6_likeAnyOf 23 = .ok (.getfield 17, 3) := by decide +kernel
theorem dX6_likeAnyOf_26 : decode cX6_likeAnyOf 26 = .ok (.iload_n 3, 1) := by decide +kernel
theorem dX6_likeAnyOf_27 : decode cX6_likeAnyOf 27 = .ok (.iaload, 1) := by decide +kernel
theorem dX6_likeAnyOf_28 : decode cX6_likeAnyOf 28 = .ok (.ior, 1) := by decide +kernel
theorem dX6_likeAnyOf_29 : decode cX6_likeAnyOf 29 = .ok (.istore_n 2, 1) := by decide +kernel
theorem dX6_likeAnyOf_30 : decode cX6_likeAnyOf 30 = .ok (.iinc 3 1, 3) := by decide +kernel
theorem dX6_likeAnyOf_33 : decode cX6_likeAnyOf 33 = .ok (.goto (-29), 3) := by decide +kernel
theorem dX6_likeAnyOf_36 : decode cX6_likeAnyOf 36 = .ok (.iload_n 2, 1) := by decide +kernel
theorem dX6_likeAnyOf_37 : decode cX6_likeAnyOf 37 = .ok (.ireturn, 1) := by decide +kernel
theorem dX6_likeTwoOf_0 : decode cX6_likeTwoOf 0 = .ok (.iconst 0, 1) := by decide +kernel
theorem dX6_likeTwoOf_1 : decode cX6_likeTwoOf 1 = .ok (.istore_n 2, 1) := by decide +kernel
theorem dX6_likeTwoOf_2 : decode cX6_likeTwoOf 2 = .ok (.iconst 0, 1) := by decide +kernel
theorem dX6_likeTwoOf_3 : decode cX6_likeTwoOf 3 = .ok (.istore_n 3, 1) := by decide +kernel
theorem dX6_likeTwoOf_4 : decode cX6_likeTwoOf 4 = .ok (.iconst 0, 1) := by decide +kernel
theorem dX6_likeTwoOf_5 : decode cX6_likeTwoOf 5 = .ok (.istore 4, 2) := by decide +kernel
theorem dX6_likeTwoOf_7 : decode cX6_likeTwoOf 7 = .ok (.iload 4, 2) := by decide +kernel
theorem dX6_likeTwoOf_9 : decode cX6_likeTwoOf 9 = .ok (.aload_n 0, 1) := by decide +kernel
theorem dX6_likeTwoOf_10 : decode cX6_likeTwoOf 10 = .ok (.getfield 17, 3) := by decide +kernel
theorem dX6_likeTwoOf_13 : decode cX6_likeTwoOf 13 = .ok (.arraylength, 1) := by decide +kernel
theorem dX6_likeTwoOf_14 : decode cX6_likeTwoOf 14 = .ok (.if_icmp .ge 43, 3) := by decide +kernel
theorem dX6_likeTwoOf_17 : decode cX6_likeTwoOf 17 = .ok (.iload_n 1, 1) := by decide +kernel
theorem dX6_likeTwoOf_18 : decode cX6_likeTwoOf 18 = .ok (.iload 4, 2) := by decide +kernel
theorem dX6_likeTwoOf_20 : decode cX6_likeTwoOf 20 = .ok (.ishr, 1) := by decide +kernel
theorem dX6_likeTwoOf_21 : decode cX6_likeTwoOf 21 = .ok (.iconst 1, 1) := by decide +kernel
theorem dX6_likeTwoOf_22 : decode cX6_likeTwoOf 22 = .ok (.iand, 1) := by decide +kernel
theorem dX6_likeTwoOf_23 : decode cX6_likeTwoOf 23 = .ok (.ifCond .ne 6, 3) := by decide +kernel
theorem dX6_likeTwoOf_26 : decode cX6_likeTwoOf 26 = .ok (.goto 25, 3) := by decide +kernel
theorem dX6_likeTwoOf_29 : decode cX6_likeTwoOf 29 = .ok (.iload_n 3, 1) := by decide +kernel
theorem dX6_likeTwoOf_30 : decode cX6_likeTwoOf 30 = .ok (.iload_n 2, 1) := by decide +kernel
theorem dX6_likeTwoOf_31 : decode cX6_likeTwoOf 31 = .ok (.aload_n 0, 1) := by decide +kernel
theorem dX6_likeTwoOf_32 : decode cX6_likeTwoOf 32 = .ok (.getfield 17, 3) := by decide +kernel
theorem dX6_likeTwoOf_35 : decode cX6_likeTwoOf 35 = .ok (.iload 4, 2) := by decide +kernel
theorem dX6_likeTwoOf_37 : decode cX6_likeTwoOf 37 = .ok (.iaload, 1) := by decide +kernel
theorem dX6_likeTwoOf_38 : decode cX6_likeTwoOf 38 = .ok (.iand, 1) := by decide +kernel
theorem dX6_likeTwoOf_39 : decode cX6_likeTwoOf 39 = .ok (.ior, 1) := by decide +kernel
theorem dX6_likeTwoOf_40 : decode cX6_likeTwoOf 40 = .ok (.istore_n 3, 1) := by decide +kernel
theorem dX6_likeTwoOf_41 : decode cX6_likeTwoOf 41 = .ok (.iload_n 2, 1) := by decide +kernel
theorem dX6_likeTwoOf_42 : decode cX6_likeTwoOf 42 = .ok (.aload_n 0, 1) := by decide +kernel
theorem dX6_likeTwoOf_43 : decode cX6_likeTwoOf 43 = .ok (.getfield 17, 3) := by decide +kernel
theorem dX6_likeTwoOf_46 : decode cX6_likeTwoOf 46 = .ok (.iload 4, 2) := by decide +kernel
theorem dX6_likeTwoOf_48 : decode cX6_likeTwoOf 48 = .ok (.iaload, 1) := by decide +kernel
theorem dX6_likeTwoOf_49 : decode cX6_likeTwoOf 49 = .ok (.ior, 1) := by decide +kernel
theorem dX6_likeTwoOf_50 : decode cX6_likeTwoOf 50 = .ok (.istore_n 2, 1) := by decide +kernel
theorem dX6_likeTwoOf_51 : decode cX6_likeTwoOf 51 = .ok (.iinc 4 1, 3) := by decide +kernel
theorem dX6_likeTwoOf_54 : decode cX6_likeTwoOf 54 = .ok (.goto (-47), 3) := by decide +kernel
theorem dX6_likeTwoOf_57 : decode cX6_likeTwoOf 57 = .ok (.iload_n 3, 1) := by decide +kernel
theorem dX6_likeTwoOf_58 : decode cX6_likeTwoOf 58 = .ok (.ireturn, 1) := by decide +kernel
theorem dX6_givenBy_0 : decode cX6_givenBy 0 = .ok (.aload_n 0, 1) := by decide +kernel
theorem dX6_givenBy_1 : decode cX6_givenBy 1 = .ok (.iload_n 1, 1) := by decide +kernel
theorem dX6_givenBy_2 : decode cX6_givenBy 2 = .ok (.invokevirtual 79, 3) := by decide +kernel
theorem dX6_givenBy_5 : decode cX6_givenBy 5 = .ok (.istore_n 2, 1) := by decide +kernel
theorem dX6_givenBy_6 : decode cX6_givenBy 6 = .ok (.iload_n 2, 1) := by decide +kernel
theorem dX6_givenBy_7 : decode cX6_givenBy 7 = .ok (.invokestatic 82, 3) := by decide +kernel
theorem dX6_givenBy_10 : decode cX6_givenBy 10 = .ok (.istore_n 3, 1) := by decide +kernel
theorem dX6_givenBy_11 : decode cX6_givenBy 11 = .ok (.iload_n 3, 1) := by decide +kernel
theorem dX6_givenBy_12 : decode cX6_givenBy 12 = .ok (.ifCond .gt 5, 3) := by decide +kernel
theorem dX6_givenBy_15 : decode cX6_givenBy 15 = .ok (.iconst (-1), 1) := by decide +kernel
theorem dX6_givenBy_16 : decode cX6_givenBy 16 = .ok (.ireturn, 1) := by decide +kernel
theorem dX6_givenBy_17 : decode cX6_givenBy 17 = .ok (.iload_n 2, 1) := by decide +kernel
theorem dX6_givenBy_18 : decode cX6_givenBy 18 = .ok (.aload_n 0, 1) := by decide +kernel
theorem dX6_givenBy_19 : decode cX6_givenBy 19 = .ok (.iload_n 3, 1) := by decide +kernel
theorem dX6_givenBy_20 : decode cX6_givenBy 20 = .ok (.aload_n 0, 1) := by decide +kernel
theorem dX6_givenBy_21 : decode cX6_givenBy 21 = .ok (.iconst 0, 1) := by decide +kernel
theorem dX6_givenBy_22 : decode cX6_givenBy 22 = .ok (.iconst 0, 1) := by decide +kernel
theorem dX6_givenBy_23 : decode cX6_givenBy 23 = .ok (.iload_n 1, 1) := by decide +kernel
theorem dX6_givenBy_24 : decode cX6_givenBy 24 = .ok (.invokestatic 82, 3) := by decide +kernel
theorem dX6_givenBy_27 : decode cX6_givenBy 27 = .ok (.iload_n 3, 1) := by decide +kernel
theorem dX6_givenBy_28 : decode cX6_givenBy 28 = .ok (.invokevirtual 87, 3) := by decide +kernel
theorem dX6_givenBy_31 : decode cX6_givenBy 31 = .ok (.invokevirtual 91, 3) := by decide +kernel
theorem dX6_givenBy_34 : decode cX6_givenBy 34 = .ok (.invokestatic 94, 3) := by decide +kernel
theorem dX6_givenBy_37 : decode cX6_givenBy 37 = .ok (.ireturn, 1) := by decide +kernel
theorem dX6_pickOf_0 : decode cX6_pickOf 0 = .ok (.iload_n 1, 1) := by decide +kernel
theorem dX6_pickOf_1 : decode cX6_pickOf 1 = .ok (.ifCond .gt 5, 3) := by decide +kernel
theorem dX6_pickOf_4 : decode cX6_pickOf 4 = .ok (.iconst 0, 1) := by decide +kernel
theorem dX6_pickOf_5 : decode cX6_pickOf 5 = .ok (.ireturn, 1) := by decide +kernel
theorem dX6_pickOf_6 : decode cX6_pickOf 6 = .ok (.aload_n 0, 1) := by decide +kernel
theorem dX6_pickOf_7 : decode cX6_pickOf 7 = .ok (.getfield 26, 3) := by decide +kernel
theorem dX6_pickOf_10 : decode cX6_pickOf 10 = .ok (.tableswitch 66 1 4 #[30, 32, 36, 45], 30) := by decide +kernel
theorem dX6_pickOf_40 : decode cX6_pickOf 40 = .ok (.iconst 0, 1) := by decide +kernel
theorem dX6_pickOf_41 : decode cX6_pickOf 41 = .ok (.ireturn, 1) := by decide +kernel
theorem dX6_pickOf_42 : decode cX6_pickOf 42 = .ok (.iload_n 1, 1) := by decide +kernel
theorem dX6_pickOf_43 : decode cX6_pickOf 43 = .ok (.iconst 1, 1) := by decide +kernel
theorem dX6_pickOf_44 : decode cX6_pickOf 44 = .ok (.isub, 1) := by decide +kernel
theorem dX6_pickOf_45 : decode cX6_pickOf 45 = .ok (.ireturn, 1) := by decide +kernel
theorem dX6_pickOf_46 : decode cX6_pickOf 46 = .ok (.aload_n 0, 1) := by decide +kernel
theorem dX6_pickOf_47 : decode cX6_pickOf 47 = .ok (.getfield 30, 3) := by decide +kernel
theorem dX6_pickOf_50 : decode cX6_pickOf 50 = .ok (.iload_n 1, 1) := by decide +kernel
theorem dX6_pickOf_51 : decode cX6_pickOf 51 = .ok (.invokestatic 97, 3) := by decide +kernel
theorem dX6_pickOf_54 : decode cX6_pickOf 54 = .ok (.ireturn, 1) := by decide +kernel
theorem dX6_pickOf_55 : decode cX6_pickOf 55 = .ok (.aload_n 0, 1) := by decide +kernel
theorem dX6_pickOf_56 : decode cX6_pickOf 56 = .ok (.getfield 46, 3) := by decide +kernel
theorem dX6_pickOf_59 : decode cX6_pickOf 59 = .ok (.iconst 2, 1) := by decide +kernel
theorem dX6_pickOf_60 : decode cX6_pickOf 60 = .ok (.irem, 1) := by decide +kernel
theorem dX6_pickOf_61 : decode cX6_pickOf 61 = .ok (.ifCond .ne 11, 3) := by decide +kernel
theorem dX6_pickOf_64 : decode cX6_pickOf 64 = .ok (.iload_n 2, 1) := by decide +kernel
theorem dX6_pickOf_65 : decode cX6_pickOf 65 = .ok (.iload_n 1, 1) := by decide +kernel
theorem dX6_pickOf_66 : decode cX6_pickOf 66 = .ok (.invokestatic 97, 3) := by decide +kernel
theorem dX6_pickOf_69 : decode cX6_pickOf 69 = .ok (.goto 6, 3) := by decide +kernel
theorem dX6_pickOf_72 : decode cX6_pickOf 72 = .ok (.iload_n 1, 1) := by decide +kernel
theorem dX6_pickOf_73 : decode cX6_pickOf 73 = .ok (.iconst 1, 1) := by decide +kernel
theorem dX6_pickOf_74 : decode cX6_pickOf 74 = .ok (.isub, 1) := by decide +kernel
theorem dX6_pickOf_75 : decode cX6_pickOf 75 = .ok (.ireturn, 1) := by decide +kernel
theorem dX6_pickOf_76 : decode cX6_pickOf 76 = .ok (.iload_n 2, 1) := by decide +kernel
theorem dX6_pickOf_77 : decode cX6_pickOf 77 = .ok (.iload_n 1, 1) := by decide +kernel
theorem dX6_pickOf_78 : decode cX6_pickOf 78 = .ok (.invokestatic 97, 3) := by decide +kernel
theorem dX6_pickOf_81 : decode cX6_pickOf 81 = .ok (.ireturn, 1) := by decide +kernel
theorem dX6_bitAt_0 : decode cX6_bitAt 0 = .ok (.iload_n 1, 1) := by decide +kernel
theorem dX6_bitAt_1 : decode cX6_bitAt 1 = .ok (.istore_n 2, 1) := by decide +kernel
theorem dX6_bitAt_2 : decode cX6_bitAt 2 = .ok (.iconst 0, 1) := by decide +kernel
theorem dX6_bitAt_3 : decode cX6_bitAt 3 = .ok (.istore_n 3, 1) := by decide +kernel
theorem dX6_bitAt_4 : decode cX6_bitAt 4 = .ok (.iload_n 3, 1) := by decide +kernel
theorem dX6_bitAt_5 : decode cX6_bitAt 5 = .ok (.bipush 12, 2) := by decide +kernel
theorem dX6_bitAt_7 : decode cX6_bitAt 7 = .ok (.if_icmp .ge 29, 3) := by decide +kernel
theorem dX6_bitAt_10 : decode cX6_bitAt 10 = .ok (.iload_n 0, 1) := by decide +kernel
theorem dX6_bitAt_11 : decode cX6_bitAt 11 = .ok (.iload_n 3, 1) := by decide +kernel
theorem dX6_bitAt_12 : decode cX6_bitAt 12 = .ok (.ishr, 1) := by decide +kernel
theorem dX6_bitAt_13 : decode cX6_bitAt 13 = .ok (.iconst 1, 1) := by decide +kernel
theorem dX6_bitAt_14 : decode cX6_bitAt 14 = .ok (.iand, 1) := by decide +kernel
theorem dX6_bitAt_15 : decode cX6_bitAt 15 = .ok (.ifCond .ne 6, 3) := by decide +kernel
theorem dX6_bitAt_18 : decode cX6_bitAt 18 = .ok (.goto 12, 3) := by decide +kernel
theorem dX6_bitAt_21 : decode cX6_bitAt 21 = .ok (.iload_n 2, 1) := by decide +kernel
theorem dX6_bitAt_22 : decode cX6_bitAt 22 = .ok (.ifCond .ne 5, 3) := by decide +kernel
theorem dX6_bitAt_25 : decode cX6_bitAt 25 = .ok (.iload_n 3, 1) := by decide +kernel
theorem dX6_bitAt_26 : decode cX6_bitAt 26 = .ok (.ireturn, 1) := by decide +kernel
theorem dX6_bitAt_27 : decode cX6_bitAt 27 = .ok (.iinc 2 (-1), 3) := by decide +kernel
theorem dX6_bitAt_30 : decode cX6_bitAt 30 = .ok (.iinc 3 1, 3) := by decide +kernel
theorem dX6_bitAt_33 : decode cX6_bitAt 33 = .ok (.goto (-29), 3) := by decide +kernel
theorem dX6_bitAt_36 : decode cX6_bitAt 36 = .ok (.iconst (-1), 1) := by decide +kernel
theorem dX6_bitAt_37 : decode cX6_bitAt 37 = .ok (.ireturn, 1) := by decide +kernel
theorem dX6_shutBy_0 : decode cX6_shutBy 0 = .ok (.aload_n 0, 1) := by decide +kernel
theorem dX6_shutBy_1 : decode cX6_shutBy 1 = .ok (.getfield 26, 3) := by decide +kernel
theorem dX6_shutBy_4 : decode cX6_shutBy 4 = .ok (.tableswitch 51 1 5 #[36, 41, 36, 41, 49], 36) := by decide +kernel
theorem dX6_shutBy_40 : decode cX6_shutBy 40 = .ok (.iload_n 1, 1) := by decide +kernel
theorem dX6_shutBy_41 : decode cX6_shutBy 41 = .ok (.iload_n 1, 1) := by decide +kernel
theorem dX6_shutBy_42 : decode cX6_shutBy 42 = .ok (.ineg, 1) := by decide +kernel
theorem dX6_shutBy_43 : decode cX6_shutBy 43 = .ok (.iand, 1) := by decide +kernel
theorem dX6_shutBy_44 : decode cX6_shutBy 44 = .ok (.ireturn, 1) := by decide +kernel
theorem dX6_shutBy_45 : decode cX6_shutBy 45 = .ok (.iload_n 1, 1) := by decide +kernel
theorem dX6_shutBy_46 : decode cX6_shutBy 46 = .ok (.aload_n 0, 1) := by decide +kernel
theorem dX6_shutBy_47 : decode cX6_shutBy 47 = .ok (.iload_n 1, 1) := by decide +kernel
theorem dX6_shutBy_48 : decode cX6_shutBy 48 = .ok (.invokevirtual 72, 3) := by decide +kernel
theorem dX6_shutBy_51 : decode cX6_shutBy 51 = .ok (.ior, 1) := by decide +kernel
theorem dX6_shutBy_52 : decode cX6_shutBy 52 = .ok (.ireturn, 1) := by decide +kernel
theorem dX6_shutBy_53 : decode cX6_shutBy 53 = .ok (.iconst 0, 1) := by decide +kernel
theorem dX6_shutBy_54 : decode cX6_shutBy 54 = .ok (.ireturn, 1) := by decide +kernel
theorem dX6_shutBy_55 : decode cX6_shutBy 55 = .ok (.iload_n 1, 1) := by decide +kernel
theorem dX6_shutBy_56 : decode cX6_shutBy 56 = .ok (.ireturn, 1) := by decide +kernel
theorem dX6_costOf_0 : decode cX6_costOf 0 = .ok (.iconst 0, 1) := by decide +kernel
theorem dX6_costOf_1 : decode cX6_costOf 1 = .ok (.bipush 99, 2) := by decide +kernel
theorem dX6_costOf_3 : decode cX6_costOf 3 = .ok (.aload_n 0, 1) := by decide +kernel
theorem dX6_costOf_4 : decode cX6_costOf 4 = .ok (.iconst 2, 1) := by decide +kernel
theorem dX6_costOf_5 : decode cX6_costOf 5 = .ok (.iconst 0, 1) := by decide +kernel
theorem dX6_costOf_6 : decode cX6_costOf 6 = .ok (.iload_n 1, 1) := by decide +kernel
theorem dX6_costOf_7 : decode cX6_costOf 7 = .ok (.invokestatic 82, 3) := by decide +kernel
theorem dX6_costOf_10 : decode cX6_costOf 10 = .ok (.iconst 0, 1) := by decide +kernel
theorem dX6_costOf_11 : decode cX6_costOf 11 = .ok (.invokevirtual 87, 3) := by decide +kernel
theorem dX6_costOf_14 : decode cX6_costOf 14 = .ok (.invokestatic 102, 3) := by decide +kernel
theorem dX6_costOf_17 : decode cX6_costOf 17 = .ok (.invokestatic 105, 3) := by decide +kernel
theorem dX6_costOf_20 : decode cX6_costOf 20 = .ok (.ireturn, 1) := by decide +kernel
theorem dX6_gladOf_0 : decode cX6_gladOf 0 = .ok (.aload_n 0, 1) := by decide +kernel
theorem dX6_gladOf_1 : decode cX6_gladOf 1 = .ok (.iconst 1, 1) := by decide +kernel
theorem dX6_gladOf_2 : decode cX6_gladOf 2 = .ok (.iload_n 1, 1) := by decide +kernel
theorem dX6_gladOf_3 : decode cX6_gladOf 3 = .ok (.iconst 0, 1) := by decide +kernel
theorem dX6_gladOf_4 : decode cX6_gladOf 4 = .ok (.iconst 0, 1) := by decide +kernel
theorem dX6_gladOf_5 : decode cX6_gladOf 5 = .ok (.invokevirtual 87, 3) := by decide +kernel
theorem dX6_gladOf_8 : decode cX6_gladOf 8 = .ok (.istore_n 2, 1) := by decide +kernel
theorem dX6_gladOf_9 : decode cX6_gladOf 9 = .ok (.aload_n 0, 1) := by decide +kernel
theorem dX6_gladOf_10 : decode cX6_gladOf 10 = .ok (.getfield 26, 3) := by decide +kernel
theorem dX6_gladOf_13 : decode cX6_gladOf 13 = .ok (.tableswitch 73 1 5 #[35, 39, 46, 58, 70], 35) := by decide +kernel
theorem dX6_gladOf_48 : decode cX6_gladOf 48 = .ok (.iload_n 2, 1) := by decide +kernel
theorem dX6_gladOf_49 : decode cX6_gladOf 49 = .ok (.iconst 2, 1) := by decide +kernel
theorem dX6_gladOf_50 : decode cX6_gladOf 50 = .ok (.idiv, 1) := by decide +kernel
theorem dX6_gladOf_51 : decode cX6_gladOf 51 = .ok (.ireturn, 1) := by decide +kernel
theorem dX6_gladOf_52 : decode cX6_gladOf 52 = .ok (.aload_n 0, 1) := by decide +kernel
theorem dX6_gladOf_53 : decode cX6_gladOf 53 = .ok (.iload_n 1, 1) := by decide +kernel
theorem dX6_gladOf_54 : decode cX6_gladOf 54 = .ok (.iload_n 2, 1) := by decide +kernel
theorem dX6_gladOf_55 : decode cX6_gladOf 55 = .ok (.invokevirtual 108, 3) := by decide +kernel
theorem dX6_gladOf_58 : decode cX6_gladOf 58 = .ok (.ireturn, 1) := by decide +kernel
theorem dX6_gladOf_59 : decode cX6_gladOf 59 = .ok (.iload_n 2, 1) := by decide +kernel
theorem dX6_gladOf_60 : decode cX6_gladOf 60 = .ok (.iconst 2, 1) := by decide +kernel
theorem dX6_gladOf_61 : decode cX6_gladOf 61 = .ok (.idiv, 1) := by decide +kernel
theorem dX6_gladOf_62 : decode cX6_gladOf 62 = .ok (.aload_n 0, 1) := by decide +kernel
theorem dX6_gladOf_63 : decode cX6_gladOf 63 = .ok (.getfield 30, 3) := by decide +kernel
theorem dX6_gladOf_66 : decode cX6_gladOf 66 = .ok (.iadd, 1) := by decide +kernel
theorem dX6_gladOf_67 : decode cX6_gladOf 67 = .ok (.invokestatic 111, 3) := by decide +kernel
theorem dX6_gladOf_70 : decode cX6_gladOf 70 = .ok (.ireturn, 1) := by decide +kernel
theorem dX6_gladOf_71 : decode cX6_gladOf 71 = .ok (.iconst 2, 1) := by decide +kernel
theorem dX6_gladOf_72 : decode cX6_gladOf 72 = .ok (.aload_n 0, 1) := by decide +kernel
theorem dX6_gladOf_73 : decode cX6_gladOf 73 = .ok (.iload_n 1, 1) := by decide +kernel
theorem dX6_gladOf_74 : decode cX6_gladOf 74 = .ok (.iload_n 2, 1) := by decide +kernel
theorem dX6_gladOf_75 : decode cX6_gladOf 75 = .ok (.invokevirtual 108, 3) := by decide +kernel
theorem dX6_gladOf_78 : decode cX6_gladOf 78 = .ok (.imul, 1) := by decide +kernel
theorem dX6_gladOf_79 : decode cX6_gladOf 79 = .ok (.invokestatic 111, 3) := by decide +kernel
theorem dX6_gladOf_82 : decode cX6_gladOf 82 = .ok (.ireturn, 1) := by decide +kernel
theorem dX6_gladOf_83 : decode cX6_gladOf 83 = .ok (.bipush 9, 2) := by decide +kernel
theorem dX6_gladOf_85 : decode cX6_gladOf 85 = .ok (.ireturn, 1) := by decide +kernel
theorem dX6_gladOf_86 : decode cX6_gladOf 86 = .ok (.iload_n 2, 1) := by decide +kernel
theorem dX6_gladOf_87 : decode cX6_gladOf 87 = .ok (.ireturn, 1) := by decide +kernel
theorem dX6_gladAsTwin_0 : decode cX6_gladAsTwin 0 = .ok (.aload_n 0, 1) := by decide +kernel
theorem dX6_gladAsTwin_1 : decode cX6_gladAsTwin 1 = .ok (.getfield 43, 3) := by decide +kernel
theorem dX6_gladAsTwin_4 : decode cX6_gladAsTwin 4 = .ok (.iload_n 1, 1) := by decide +kernel
theorem dX6_gladAsTwin_5 : decode cX6_gladAsTwin 5 = .ok (.ishr, 1) := by decide +kernel
theorem dX6_gladAsTwin_6 : decode cX6_gladAsTwin 6 = .ok (.iconst 1, 1) := by decide +kernel
theorem dX6_gladAsTwin_7 : decode cX6_gladAsTwin 7 = .ok (.iand, 1) := by decide +kernel
theorem dX6_gladAsTwin_8 : decode cX6_gladAsTwin 8 = .ok (.ifCond .eq 7, 3) := by decide +kernel
theorem dX6_gladAsTwin_11 : decode cX6_gladAsTwin 11 = .ok (.iconst 0, 1) := by decide +kernel
theorem dX6_gladAsTwin_12 : decode cX6_gladAsTwin 12 = .ok (.goto 4, 3) := by decide +kernel
theorem dX6_gladAsTwin_15 : decode cX6_gladAsTwin 15 = .ok (.iload_n 2, 1) := by decide +kernel
theorem dX6_gladAsTwin_16 : decode cX6_gladAsTwin 16 = .ok (.ireturn, 1) := by decide +kernel
theorem dX6_bounded_0 : decode cX6_bounded 0 = .ok (.bipush (-99), 2) := by decide +kernel
theorem dX6_bounded_2 : decode cX6_bounded 2 = .ok (.bipush 99, 2) := by decide +kernel
theorem dX6_bounded_4 : decode cX6_bounded 4 = .ok (.iload_n 0, 1) := by decide +kernel
theorem dX6_bounded_5 : decode cX6_bounded 5 = .ok (.invokestatic 102, 3) := by decide +kernel
theorem dX6_bounded_8 : decode cX6_bounded 8 = .ok (.invokestatic 105, 3) := by decide +kernel
theorem dX6_bounded_11 : decode cX6_bounded 11 = .ok (.ireturn, 1) := by decide +kernel
theorem dX6_tellBy_0 : decode cX6_tellBy 0 = .ok (.aload_n 0, 1) := by decide +kernel
theorem dX6_tellBy_1 : decode cX6_tellBy 1 = .ok (.getfield 49, 3) := by decide +kernel
theorem dX6_tellBy_4 : decode cX6_tellBy 4 = .ok (.ifnonnull 5, 3) := by decide +kernel
theorem dX6_tellBy_7 : decode cX6_tellBy 7 = .ok (.iconst 0, 1) := by decide +kernel
theorem dX6_tellBy_8 : decode cX6_tellBy 8 = .ok (.ireturn, 1) := by decide +kernel
theorem dX6_tellBy_9 : decode cX6_tellBy 9 = .ok (.aload_n 0, 1) := by decide +kernel
theorem dX6_tellBy_10 : decode cX6_tellBy 10 = .ok (.iconst (-1), 1) := by decide +kernel
theorem dX6_tellBy_11 : decode cX6_tellBy 11 = .ok (.iload_n 2, 1) := by decide +kernel
theorem dX6_tellBy_12 : decode cX6_tellBy 12 = .ok (.invokevirtual 114, 3) := by decide +kernel
theorem dX6_tellBy_15 : decode cX6_tellBy 15 = .ok (.aload_n 0, 1) := by decide +kernel
theorem dX6_tellBy_16 : decode cX6_tellBy 16 = .ok (.bipush (-2), 2) := by decide +kernel
theorem dX6_tellBy_18 : decode cX6_tellBy 18 = .ok (.iload_n 3, 1) := by decide +kernel
theorem dX6_tellBy_19 : decode cX6_tellBy 19 = .ok (.invokevirtual 114, 3) := by decide +kernel
theorem dX6_tellBy_22 : decode cX6_tellBy 22 = .ok (.aload_n 0, 1) := by decide +kernel
theorem dX6_tellBy_23 : decode cX6_tellBy 23 = .ok (.bipush (-3), 2) := by decide +kernel
theorem dX6_tellBy_25 : decode cX6_tellBy 25 = .ok (.iload 4, 2) := by decide +kernel
theorem dX6_tellBy_27 : decode cX6_tellBy 27 = .ok (.invokevirtual 114, 3) := by decide +kernel
theorem dX6_tellBy_30 : decode cX6_tellBy 30 = .ok (.aload_n 0, 1) := by decide +kernel
theorem dX6_tellBy_31 : decode cX6_tellBy 31 = .ok (.bipush (-4), 2) := by decide +kernel
theorem dX6_tellBy_33 : decode cX6_tellBy 33 = .ok (.aload_n 0, 1) := by decide +kernel
theorem dX6_tellBy_34 : decode cX6_tellBy 34 = .ok (.getfield 30, 3) := by decide +kernel
theorem dX6_tellBy_37 : decode cX6_tellBy 37 = .ok (.invokevirtual 114, 3) := by decide +kernel
theorem dX6_tellBy_40 : decode cX6_tellBy 40 = .ok (.aload_n 0, 1) := by decide +kernel
theorem dX6_tellBy_41 : decode cX6_tellBy 41 = .ok (.bipush (-5), 2) := by decide +kernel
theorem dX6_tellBy_43 : decode cX6_tellBy 43 = .ok (.aload_n 0, 1) := by decide +kernel
theorem dX6_tellBy_44 : decode cX6_tellBy 44 = .ok (.getfield 46, 3) := by decide +kernel
theorem dX6_tellBy_47 : decode cX6_tellBy 47 = .ok (.invokevirtual 114, 3) := by decide +kernel
theorem dX6_tellBy_50 : decode cX6_tellBy 50 = .ok (.aload_n 0, 1) := by decide +kernel
theorem dX6_tellBy_51 : decode cX6_tellBy 51 = .ok (.bipush (-6), 2) := by decide +kernel
theorem dX6_tellBy_53 : decode cX6_tellBy 53 = .ok (.aload_n 0, 1) := by decide +kernel
theorem dX6_tellBy_54 : decode cX6_tellBy 54 = .ok (.getfield 38, 3) := by decide +kernel
theorem dX6_tellBy_57 : decode cX6_tellBy 57 = .ok (.invokestatic 82, 3) := by decide +kernel
theorem dX6_tellBy_60 : decode cX6_tellBy 60 = .ok (.invokevirtual 114, 3) := by decide +kernel
theorem dX6_tellBy_63 : decode cX6_tellBy 63 = .ok (.aload_n 0, 1) := by decide +kernel
theorem dX6_tellBy_64 : decode cX6_tellBy 64 = .ok (.getfield 49, 3) := by decide +kernel
theorem dX6_tellBy_67 : decode cX6_tellBy 67 = .ok (.iload_n 1, 1) := by decide +kernel
theorem dX6_tellBy_68 : decode cX6_tellBy 68 = .ok (.aload_n 0, 1) := by decide +kernel
theorem dX6_tellBy_69 : decode cX6_tellBy 69 = .ok (.getfield 11, 3) := by decide +kernel
theorem dX6_tellBy_72 : decode cX6_tellBy 72 = .ok (.invokevirtual 118, 3) := by decide +kernel
theorem dX6_tellBy_75 : decode cX6_tellBy 75 = .ok (.invokestatic 111, 3) := by decide +kernel
theorem dX6_tellBy_78 : decode cX6_tellBy 78 = .ok (.ireturn, 1) := by decide +kernel
theorem dX6_put_0 : decode cX6_put 0 = .ok (.iload_n 1, 1) := by decide +kernel
theorem dX6_put_1 : decode cX6_put 1 = .ok (.invokestatic 122, 3) := by decide +kernel
theorem dX6_put_4 : decode cX6_put 4 = .ok (.istore_n 3, 1) := by decide +kernel
theorem dX6_put_5 : decode cX6_put 5 = .ok (.iload_n 3, 1) := by decide +kernel
theorem dX6_put_6 : decode cX6_put 6 = .ok (.ifCond .lt 19, 3) := by decide +kernel
theorem dX6_put_9 : decode cX6_put 9 = .ok (.iload_n 3, 1) := by decide +kernel
theorem dX6_put_10 : decode cX6_put 10 = .ok (.aload_n 0, 1) := by decide +kernel
theorem dX6_put_11 : decode cX6_put 11 = .ok (.getfield 11, 3) := by decide +kernel
theorem dX6_put_14 : decode cX6_put 14 = .ok (.arraylength, 1) := by decide +kernel
theorem dX6_put_15 : decode cX6_put 15 = .ok (.if_icmp .ge 10, 3) := by decide +kernel
theorem dX6_put_18 : decode cX6_put 18 = .ok (.aload_n 0, 1) := by decide +kernel
theorem dX6_put_19 : decode cX6_put 19 = .ok (.getfield 11, 3) := by decide +kernel
theorem dX6_put_22 : decode cX6_put 22 = .ok (.iload_n 3, 1) := by decide +kernel
theorem dX6_put_23 : decode cX6_put 23 = .ok (.iload_n 2, 1) := by decide +kernel
theorem dX6_put_24 : decode cX6_put 24 = .ok (.iastore, 1) := by decide +kernel
theorem dX6_put_25 : decode cX6_put 25 = .ok (.return_, 1) := by decide +kernel
theorem dX6_askFor_0 : decode cX6_askFor 0 = .ok (.aload_n 0, 1) := by decide +kernel
theorem dX6_askFor_1 : decode cX6_askFor 1 = .ok (.iload_n 1, 1) := by decide +kernel
theorem dX6_askFor_2 : decode cX6_askFor 2 = .ok (.invokevirtual 125, 3) := by decide +kernel
theorem dX6_askFor_5 : decode cX6_askFor 5 = .ok (.istore_n 2, 1) := by decide +kernel
theorem dX6_askFor_6 : decode cX6_askFor 6 = .ok (.aload_n 0, 1) := by decide +kernel
theorem dX6_askFor_7 : decode cX6_askFor 7 = .ok (.iload_n 1, 1) := by decide +kernel
theorem dX6_askFor_8 : decode cX6_askFor 8 = .ok (.invokevirtual 128, 3) := by decide +kernel
theorem dX6_askFor_11 : decode cX6_askFor 11 = .ok (.istore_n 3, 1) := by decide +kernel
theorem dX6_askFor_12 : decode cX6_askFor 12 = .ok (.aload_n 0, 1) := by decide +kernel
theorem dX6_askFor_13 : decode cX6_askFor 13 = .ok (.iload_n 1, 1) := by decide +kernel
theorem dX6_askFor_14 : decode cX6_askFor 14 = .ok (.invokevirtual 131, 3) := by decide +kernel
theorem dX6_askFor_17 : decode cX6_askFor 17 = .ok (.istore 4, 2) := by decide +kernel
theorem dX6_askFor_19 : decode cX6_askFor 19 = .ok (.iload_n 2, 1) := by decide +kernel
theorem dX6_askFor_20 : decode cX6_askFor 20 = .ok (.iconst (-1), 1) := by decide +kernel
theorem dX6_askFor_21 : decode cX6_askFor 21 = .ok (.if_icmp .ne 16, 3) := by decide +kernel
theorem dX6_askFor_24 : decode cX6_askFor 24 = .ok (.aload_n 0, 1) := by decide +kernel
theorem dX6_askFor_25 : decode cX6_askFor 25 = .ok (.dup, 1) := by decide +kernel
theorem dX6_askFor_26 : decode cX6_askFor 26 = .ok (.getfield 59, 3) := by decide +kernel
theorem dX6_askFor_29 : decode cX6_askFor 29 = .ok (.iconst 1, 1) := by decide +kernel
theorem dX6_askFor_30 : decode cX6_askFor 30 = .ok (.iadd, 1) := by decide +kernel
theorem dX6_askFor_31 : decode cX6_askFor 31 = .ok (.putfield 59, 3) := by decide +kernel
theorem dX6_askFor_34 : decode cX6_askFor 34 = .ok (.goto 39, 3) := by decide +kernel
theorem dX6_askFor_37 : decode cX6_askFor 37 = .ok (.aload_n 0, 1) := by decide +kernel
theorem dX6_askFor_38 : decode cX6_askFor 38 = .ok (.dup, 1) := by decide +kernel
theorem dX6_askFor_39 : decode cX6_askFor 39 = .ok (.getfield 56, 3) := by decide +kernel
theorem dX6_askFor_42 : decode cX6_askFor 42 = .ok (.iconst 1, 1) := by decide +kernel
theorem dX6_askFor_43 : decode cX6_askFor 43 = .ok (.iadd, 1) := by decide +kernel
theorem dX6_askFor_44 : decode cX6_askFor 44 = .ok (.putfield 56, 3) := by decide +kernel
theorem dX6_askFor_47 : decode cX6_askFor 47 = .ok (.aload_n 0, 1) := by decide +kernel
theorem dX6_askFor_48 : decode cX6_askFor 48 = .ok (.dup, 1) := by decide +kernel
theorem dX6_askFor_49 : decode cX6_askFor 49 = .ok (.getfield 62, 3) := by decide +kernel
theorem dX6_askFor_52 : decode cX6_askFor 52 = .ok (.aload_n 0, 1) := by decide +kernel
theorem dX6_askFor_53 : decode cX6_askFor 53 = .ok (.iload_n 2, 1) := by decide +kernel
theorem dX6_askFor_54 : decode cX6_askFor 54 = .ok (.invokevirtual 134, 3) := by decide +kernel
theorem dX6_askFor_57 : decode cX6_askFor 57 = .ok (.iadd, 1) := by decide +kernel
theorem dX6_askFor_58 : decode cX6_askFor 58 = .ok (.putfield 62, 3) := by decide +kernel
theorem dX6_askFor_61 : decode cX6_askFor 61 = .ok (.aload_n 0, 1) := by decide +kernel
theorem dX6_askFor_62 : decode cX6_askFor 62 = .ok (.dup, 1) := by decide +kernel
theorem dX6_askFor_63 : decode cX6_askFor 63 = .ok (.getfield 38, 3) := by decide +kernel
theorem dX6_askFor_66 : decode cX6_askFor 66 = .ok (.iconst 1, 1) := by decide +kernel
theorem dX6_askFor_67 : decode cX6_askFor 67 = .ok (.iload_n 2, 1) := by decide +kernel
theorem dX6_askFor_68 : decode cX6_askFor 68 = .ok (.ishl, 1) := by decide +kernel
theorem dX6_askFor_69 : decode cX6_askFor 69 = .ok (.ior, 1) := by decide +kernel
theorem dX6_askFor_70 : decode cX6_askFor 70 = .ok (.putfield 38, 3) := by decide +kernel
theorem dX6_askFor_73 : decode cX6_askFor 73 = .ok (.aload_n 0, 1) := by decide +kernel
theorem dX6_askFor_74 : decode cX6_askFor 74 = .ok (.dup, 1) := by decide +kernel
theorem dX6_askFor_75 : decode cX6_askFor 75 = .ok (.getfield 34, 3) := by decide +kernel
theorem dX6_askFor_78 : decode cX6_askFor 78 = .ok (.iload_n 3, 1) := by decide +kernel
theorem dX6_askFor_79 : decode cX6_askFor 79 = .ok (.ior, 1) := by decide +kernel
theorem dX6_askFor_80 : decode cX6_askFor 80 = .ok (.putfield 34, 3) := by decide +kernel
theorem dX6_askFor_83 : decode cX6_askFor 83 = .ok (.aload_n 0, 1) := by decide +kernel
theorem dX6_askFor_84 : decode cX6_askFor 84 = .ok (.dup, 1) := by decide +kernel
theorem dX6_askFor_85 : decode cX6_askFor 85 = .ok (.getfield 65, 3) := by decide +kernel
theorem dX6_askFor_88 : decode cX6_askFor 88 = .ok (.iload 4, 2) := by decide +kernel
theorem dX6_askFor_90 : decode cX6_askFor 90 = .ok (.iadd, 1) := by decide +kernel
theorem dX6_askFor_91 : decode cX6_askFor 91 = .ok (.putfield 65, 3) := by decide +kernel
theorem dX6_askFor_94 : decode cX6_askFor 94 = .ok (.aload_n 0, 1) := by decide +kernel
theorem dX6_askFor_95 : decode cX6_askFor 95 = .ok (.sipush 9999, 3) := by decide +kernel
theorem dX6_askFor_98 : decode cX6_askFor 98 = .ok (.aload_n 0, 1) := by decide +kernel
theorem dX6_askFor_99 : decode cX6_askFor 99 = .ok (.getfield 42, 3) := by decide +kernel
theorem dX6_askFor_102 : decode cX6_askFor 102 = .ok (.iload 4, 2) := by decide +kernel
theorem dX6_askFor_104 : decode cX6_askFor 104 = .ok (.iadd, 1) := by decide +kernel
theorem dX6_askFor_105 : decode cX6_askFor 105 = .ok (.invokestatic 102, 3) := by decide +kernel
theorem dX6_askFor_108 : decode cX6_askFor 108 = .ok (.putfield 42, 3) := by decide +kernel
theorem dX6_askFor_111 : decode cX6_askFor 111 = .ok (.aload_n 0, 1) := by decide +kernel
theorem dX6_askFor_112 : decode cX6_askFor 112 = .ok (.iload_n 2, 1) := by decide +kernel
theorem dX6_askFor_113 : decode cX6_askFor 113 = .ok (.putfield 53, 3) := by decide +kernel
theorem dX6_askFor_116 : decode cX6_askFor 116 = .ok (.iload_n 2, 1) := by decide +kernel
theorem dX6_askFor_117 : decode cX6_askFor 117 = .ok (.ireturn, 1) := by decide +kernel
theorem dX7_init_0 : decode cX7_init 0 = .ok (.aload_n 0, 1) := by decide +kernel
theorem dX7_init_1 : decode cX7_init 1 = .ok (.invokespecial 1, 3) := by decide +kernel
theorem dX7_init_4 : decode cX7_init 4 = .ok (.aload_n 0, 1) := by decide +kernel
theorem dX7_init_5 : decode cX7_init 5 = .ok (.bipush 12, 2) := by decide +kernel
theorem dX7_init_7 : decode cX7_init 7 = .ok (.newarray .int, 2) := by decide +kernel
theorem dX7_init_9 : decode cX7_init 9 = .ok (.putfield 9, 3) := by decide +kernel
theorem dX7_init_12 : decode cX7_init 12 = .ok (.aload_n 0, 1) := by decide +kernel
theorem dX7_init_13 : decode cX7_init 13 = .ok (.sipush 298, 3) := by decide +kernel
theorem dX7_init_16 : decode cX7_init 16 = .ok (.newarray .int, 2) := by decide +kernel
theorem dX7_init_18 : decode cX7_init 18 = .ok (.putfield 13, 3) := by decide +kernel
theorem dX7_init_21 : decode cX7_init 21 = .ok (.aload_n 0, 1) := by decide +kernel
theorem dX7_init_22 : decode cX7_init 22 = .ok (.sipush 160, 3) := by decide +kernel
theorem dX7_init_25 : decode cX7_init 25 = .ok (.newarray .int, 2) := by decide +kernel
theorem dX7_init_27 : decode cX7_init 27 = .ok (.putfield 16, 3) := by decide +kernel
theorem dX7_init_30 : decode cX7_init 30 = .ok (.aload_n 0, 1) := by decide +kernel
theorem dX7_init_31 : decode cX7_init 31 = .ok (.iconst 5, 1) := by decide +kernel
theorem dX7_init_32 : decode cX7_init 32 = .ok (.anewarray 19, 3) := by decide +kernel
theorem dX7_init_35 : decode cX7_init 35 = .ok (.putfield 21, 3) := by decide +kernel
theorem dX7_init_38 : decode cX7_init 38 = .ok (.aload_n 0, 1) := by decide +kernel
theorem dX7_init_39 : decode cX7_init 39 = .ok (.bipush 6, 2) := by decide +kernel
theorem dX7_init_41 : decode cX7_init 41 = .ok (.anewarray 25, 3) := by decide +kernel
theorem dX7_init_44 : decode cX7_init 44 = .ok (.putfield 27, 3) := by decide +kernel
theorem dX7_init_47 : decode cX7_init 47 = .ok (.aload_n 0, 1) := by decide +kernel
theorem dX7_init_48 : decode cX7_init 48 = .ok (.iconst 4, 1) := by decide +kernel
theorem dX7_init_49 : decode cX7_init 49 = .ok (.anewarray 31, 3) := by decide +kernel
theorem dX7_init_52 : decode cX7_init 52 = .ok (.putfield 33, 3) := by decide +kernel
theorem dX7_init_55 : decode cX7_init 55 = .ok (.aload_n 0, 1) := by decide +kernel
theorem dX7_init_56 : decode cX7_init 56 = .ok (.new 37, 3) := by decide +kernel
theorem dX7_init_59 : decode cX7_init 59 = .ok (.dup, 1) := by decide +kernel
theorem dX7_init_60 : decode cX7_init 60 = .ok (.aload_n 0, 1) := by decide +kernel
theorem dX7_init_61 : decode cX7_init 61 = .ok (.getfield 9, 3) := by decide +kernel
theorem dX7_init_64 : decode cX7_init 64 = .ok (.invokespecial 39, 3) := by decide +kernel
theorem dX7_init_67 : decode cX7_init 67 = .ok (.putfield 42, 3) := by decide +kernel
theorem dX7_init_70 : decode cX7_init 70 = .ok (.aload_n 0, 1) := by decide +kernel
theorem dX7_init_71 : decode cX7_init 71 = .ok (.new 46, 3) := by decide +kernel
theorem dX7_init_74 : decode cX7_init 74 = .ok (.dup, 1) := by decide +kernel
theorem dX7_init_75 : decode cX7_init 75 = .ok (.aload_n 0, 1) := by decide +kernel
theorem dX7_init_76 : decode cX7_init 76 = .ok (.getfield 16, 3) := by decide +kernel
theorem dX7_init_79 : decode cX7_init 79 = .ok (.invokespecial 48, 3) := by decide +kernel
theorem dX7_init_82 : decode cX7_init 82 = .ok (.putfield 49, 3) := by decide +kernel
theorem dX7_init_85 : decode cX7_init 85 = .ok (.aload_n 0, 1) := by decide +kernel
theorem dX7_init_86 : decode cX7_init 86 = .ok (.new 53, 3) := by decide +kernel
theorem dX7_init_89 : decode cX7_init 89 = .ok (.dup, 1) := by decide +kernel
theorem dX7_init_90 : decode cX7_init 90 = .ok (.invokespecial 55, 3) := by decide +kernel
theorem dX7_init_93 : decode cX7_init 93 = .ok (.putfield 56, 3) := by decide +kernel
theorem dX7_init_96 : decode cX7_init 96 = .ok (.aload_n 0, 1) := by decide +kernel
theorem dX7_init_97 : decode cX7_init 97 = .ok (.iconst 1, 1) := by decide +kernel
theorem dX7_init_98 : decode cX7_init 98 = .ok (.putfield 60, 3) := by decide +kernel
theorem dX7_init_101 : decode cX7_init 101 = .ok (.iconst 0, 1) := by decide +kernel
theorem dX7_init_102 : decode cX7_init 102 = .ok (.istore_n 1, 1) := by decide +kernel
theorem dX7_init_103 : decode cX7_init 103 = .ok (.iload_n 1, 1) := by decide +kernel
theorem dX7_init_104 : decode cX7_init 104 = .ok (.aload_n 0, 1) := by decide +kernel
theorem dX7_init_105 : decode cX7_init 105 = .ok (.getfield 21, 3) := by decide +kernel
theorem dX7_init_108 : decode cX7_init 108 = .ok (.arraylength, 1) := by decide +kernel
theorem dX7_init_109 : decode cX7_init 109 = .ok (.if_icmp .ge 22, 3) := by decide +kernel
theorem dX7_init_112 : decode cX7_init 112 = .ok (.aload_n 0, 1) := by decide +kernel
theorem dX7_init_113 : decode cX7_init 113 = .ok (.getfield 21, 3) := by decide +kernel
theorem dX7_init_116 : decode cX7_init 116 = .ok (.iload_n 1, 1) := by decide +kernel
theorem dX7_init_117 : decode cX7_init 117 = .ok (.new 19, 3) := by decide +kernel
theorem dX7_init_120 : decode cX7_init 120 = .ok (.dup, 1) := by decide +kernel
theorem dX7_init_121 : decode cX7_init 121 = .ok (.invokespecial 64, 3) := by decide +kernel
theorem dX7_init_124 : decode cX7_init 124 = .ok (.aastore, 1) := by decide +kernel
theorem dX7_init_125 : decode cX7_init 125 = .ok (.iinc 1 1, 3) := by decide +kernel
theorem dX7_init_128 : decode cX7_init 128 = .ok (.goto (-25), 3) := by decide +kernel
theorem dX7_init_131 : decode cX7_init 131 = .ok (.iconst 0, 1) := by decide +kernel
theorem dX7_init_132 : decode cX7_init 132 = .ok (.istore_n 1, 1) := by decide +kernel
theorem dX7_init_133 : decode cX7_init 133 = .ok (.iload_n 1, 1) := by decide +kernel
theorem dX7_init_134 : decode cX7_init 134 = .ok (.aload_n 0, 1) := by decide +kernel
theorem dX7_init_135 : decode cX7_init 135 = .ok (.getfield 27, 3) := by decide +kernel
theorem dX7_init_138 : decode cX7_init 138 = .ok (.arraylength, 1) := by decide +kernel
theorem dX7_init_139 : decode cX7_init 139 = .ok (.if_icmp .ge 22, 3) := by decide +kernel
theorem dX7_init_142 : decode cX7_init 142 = .ok (.aload_n 0, 1) := by decide +kernel
theorem dX7_init_143 : decode cX7_init 143 = .ok (.getfield 27, 3) := by decide +kernel
theorem dX7_init_146 : decode cX7_init 146 = .ok (.iload_n 1, 1) := by decide +kernel
theorem dX7_init_147 : decode cX7_init 147 = .ok (.new 25, 3) := by decide +kernel
theorem dX7_init_150 : decode cX7_init 150 = .ok (.dup, 1) := by decide +kernel
theorem dX7_init_151 : decode cX7_init 151 = .ok (.invokespecial 65, 3) := by decide +kernel
theorem dX7_init_154 : decode cX7_init 154 = .ok (.aastore, 1) := by decide +kernel
theorem dX7_init_155 : decode cX7_init 155 = .ok (.iinc 1 1, 3) := by decide +kernel
theorem dX7_init_158 : decode cX7_init 158 = .ok (.goto (-25), 3) := by decide +kernel
theorem dX7_init_161 : decode cX7_init 161 = .ok (.iconst 0, 1) := by decide +kernel
theorem dX7_init_162 : decode cX7_init 162 = .ok (.istore_n 1, 1) := by decide +kernel
theorem dX7_init_163 : decode cX7_init 163 = .ok (.iload_n 1, 1) := by decide +kernel
theorem dX7_init_164 : decode cX7_init 164 = .ok (.aload_n 0, 1) := by decide +kernel
theorem dX7_init_165 : decode cX7_init 165 = .ok (.getfield 33, 3) := by decide +kernel
theorem dX7_init_168 : decode cX7_init 168 = .ok (.arraylength, 1) := by decide +kernel
theorem dX7_init_169 : decode cX7_init 169 = .ok (.if_icmp .ge 22, 3) := by decide +kernel
theorem dX7_init_172 : decode cX7_init 172 = .ok (.aload_n 0, 1) := by decide +kernel
theorem dX7_init_173 : decode cX7_init 173 = .ok (.getfield 33, 3) := by decide +kernel
theorem dX7_init_176 : decode cX7_init 176 = .ok (.iload_n 1, 1) := by decide +kernel
theorem dX7_init_177 : decode cX7_init 177 = .ok (.new 31, 3) := by decide +kernel
theorem dX7_init_180 : decode cX7_init 180 = .ok (.dup, 1) := by decide +kernel
theorem dX7_init_181 : decode cX7_init 181 = .ok (.invokespecial 66, 3) := by decide +kernel
theorem dX7_init_184 : decode cX7_init 184 = .ok (.aastore, 1) := by decide +kernel
theorem dX7_init_185 : decode cX7_init 185 = .ok (.iinc 1 1, 3) := by decide +kernel
theorem dX7_init_188 : decode cX7_init 188 = .ok (.goto (-25), 3) := by decide +kernel
theorem dX7_init_191 : decode cX7_init 191 = .ok (.aload_n 0, 1) := by decide +kernel
theorem dX7_init_192 : decode cX7_init 192 = .ok (.iconst 0, 1) := by decide +kernel
theorem dX7_init_193 : decode cX7_init 193 = .ok (.invokevirtual 67, 3) := by decide +kernel
theorem dX7_init_196 : decode cX7_init 196 = .ok (.astore_n 1, 1) := by decide +kernel
theorem dX7_init_197 : decode cX7_init 197 = .ok (.aload_n 1, 1) := by decide +kernel
theorem dX7_init_198 : decode cX7_init 198 = .ok (.ifnull 7, 3) := by decide +kernel
theorem dX7_init_201 : decode cX7_init 201 = .ok (.aload_n 1, 1) := by decide +kernel
theorem dX7_init_202 : decode cX7_init 202 = .ok (.invokevirtual 71, 3) := by decide +kernel
theorem dX7_init_205 : decode cX7_init 205 = .ok (.aload_n 0, 1) := by decide +kernel
theorem dX7_init_206 : decode cX7_init 206 = .ok (.invokevirtual 74, 3) := by decide +kernel
theorem dX7_init_209 : decode cX7_init 209 = .ok (.return_, 1) := by decide +kernel
theorem dX7_like_0 : decode cX7_like 0 = .ok (.iload_n 1, 1) := by decide +kernel
theorem dX7_like_1 : decode cX7_like 1 = .ok (.invokestatic 77, 3) := by decide +kernel
theorem dX7_like_4 : decode cX7_like 4 = .ok (.ifCond .eq 24, 3) := by decide +kernel
theorem dX7_like_7 : decode cX7_like 7 = .ok (.iload_n 2, 1) := by decide +kernel
theorem dX7_like_8 : decode cX7_like 8 = .ok (.invokestatic 77, 3) := by decide +kernel
theorem dX7_like_11 : decode cX7_like 11 = .ok (.ifCond .eq 17, 3) := by decide +kernel
theorem dX7_like_14 : decode cX7_like 14 = .ok (.iload_n 1, 1) := by decide +kernel
theorem dX7_like_15 : decode cX7_like 15 = .ok (.iload_n 2, 1) := by decide +kernel
theorem dX7_like_16 : decode cX7_like 16 = .ok (.if_icmp .eq 12, 3) := by decide +kernel
theorem dX7_like_19 : decode cX7_like 19 = .ok (.iload_n 3, 1) := by decide +kernel
theorem dX7_like_20 : decode cX7_like 20 = .ok (.ifCond .lt 8, 3) := by decide +kernel
theorem dX7_like_23 : decode cX7_like 23 = .ok (.iload_n 3, 1) := by decide +kernel
theorem dX7_like_24 : decode cX7_like 24 = .ok (.iconst 1, 1) := by decide +kernel
theorem dX7_like_25 : decode cX7_like 25 = .ok (.if_icmp .le 6, 3) := by decide +kernel
theorem dX7_like_28 : decode cX7_like 28 = .ok (.bipush (-2), 2) := by decide +kernel
theorem dX7_like_30 : decode cX7_like 30 = .ok (.ireturn, 1) := by decide +kernel
theorem dX7_like_31 : decode cX7_like 31 = .ok (.aload_n 0, 1) := by decide +kernel
theorem dX7_like_32 : decode cX7_like 32 = .ok (.getfield 9, 3) := by decide +kernel
theorem dX7_like_35 : decode cX7_like 35 = .ok (.iload_n 1, 1) := by decide +kernel
theorem dX7_like_36 : decode cX7_like 36 = .ok (.iaload, 1) := by decide +kernel
theorem dX7_like_37 : decode cX7_like 37 = .ok (.iload_n 2, 1) := by decide +kernel
theorem dX7_like_38 : decode cX7_like 38 = .ok (.ishr, 1) := by decide +kernel
theorem dX7_like_39 : decode cX7_like 39 = .ok (.iconst 1, 1) := by decide +kernel
theorem dX7_like_40 : decode cX7_like 40 = .ok (.iand, 1) := by decide +kernel
theorem dX7_like_41 : decode cX7_like 41 = .ok (.istore 4, 2) := by decide +kernel
theorem dX7_like_43 : decode cX7_like 43 = .ok (.aload_n 0, 1) := by decide +kernel
theorem dX7_like_44 : decode cX7_like 44 = .ok (.getfield 9, 3) := by decide +kernel
theorem dX7_like_47 : decode cX7_like 47 = .ok (.iload_n 1, 1) := by decide +kernel
theorem dX7_like_48 : decode cX7_like 48 = .ok (.aload_n 0, 1) := by decide +kernel
theorem dX7_like_49 : decode cX7_like 49 = .ok (.getfield 9, 3) := by decide +kernel
theorem dX7_like_52 : decode cX7_like 52 = .ok (.iload_n 1, 1) := by decide +kernel
theorem dX7_like_53 : decode cX7_like 53 = .ok (.iaload, 1) := by decide +kernel
theorem dX7_like_54 : decode cX7_like 54 = .ok (.iconst 1, 1) := by decide +kernel
theorem dX7_like_55 : decode cX7_like 55 = .ok (.iload_n 2, 1) := by decide +kernel
theorem dX7_like_56 : decode cX7_like 56 = .ok (.ishl, 1) := by decide +kernel
theorem dX7_like_57 : decode cX7_like 57 = .ok (.iconst (-1), 1) := by decide +kernel
theorem dX7_like_58 : decode cX7_like 58 = .ok (.ixor, 1) := by decide +kernel
theorem dX7_like_59 : decode cX7_like 59 = .ok (.iand, 1) := by decide +kernel
theorem dX7_like_60 : decode cX7_like 60 = .ok (.iload_n 3, 1) := by decide +kernel
theorem dX7_like_61 : decode cX7_like 61 = .ok (.iload_n 2, 1) := by decide +kernel
theorem dX7_like_62 : decode cX7_like 62 = .ok (.ishl, 1) := by decide +kernel
theorem dX7_like_63 : decode cX7_like 63 = .ok (.ior, 1) := by decide +kernel
theorem dX7_like_64 : decode cX7_like 64 = .ok (.iastore, 1) := by decide +kernel
theorem dX7_like_65 : decode cX7_like 65 = .ok (.aload_n 0, 1) := by decide +kernel
theorem dX7_like_66 : decode cX7_like 66 = .ok (.getfield 9, 3) := by decide +kernel
theorem dX7_like_69 : decode cX7_like 69 = .ok (.iload_n 2, 1) := by decide +kernel
theorem dX7_like_70 : decode cX7_like 70 = .ok (.aload_n 0, 1) := by decide +kernel
theorem dX7_like_71 : decode cX7_like 71 = .ok (.getfield 9, 3) := by decide +kernel
theorem dX7_like_74 : decode cX7_like 74 = .ok (.iload_n 2, 1) := by decide +kernel
theorem dX7_like_75 : decode cX7_like 75 = .ok (.iaload, 1) := by decide +kernel
theorem dX7_like_76 : decode cX7_like 76 = .ok (.iconst 1, 1) := by decide +kernel
theorem dX7_like_77 : decode cX7_like 77 = .ok (.iload_n 1, 1) := by decide +kernel
theorem dX7_like_78 : decode cX7_like 78 = .ok (.ishl, 1) := by decide +kernel
theorem dX7_like_79 : decode cX7_like 79 = .ok (.iconst (-1), 1) := by decide +kernel
theorem dX7_like_80 : decode cX7_like 80 = .ok (.ixor, 1) := by decide +kernel
theorem dX7_like_81 : decode cX7_like 81 = .ok (.iand, 1) := by decide +kernel
theorem dX7_like_82 : decode cX7_like 82 = .ok (.iload_n 3, 1) := by decide +kernel
theorem dX7_like_83 : decode cX7_like 83 = .ok (.iload_n 1, 1) := by decide +kernel
theorem dX7_like_84 : decode cX7_like 84 = .ok (.ishl, 1) := by decide +kernel
theorem dX7_like_85 : decode cX7_like 85 = .ok (.ior, 1) := by decide +kernel
theorem dX7_like_86 : decode cX7_like 86 = .ok (.iastore, 1) := by decide +kernel
theorem dX7_like_87 : decode cX7_like 87 = .ok (.iload 4, 2) := by decide +kernel
theorem dX7_like_89 : decode cX7_like 89 = .ok (.ireturn, 1) := by decide +kernel
theorem dX7_set_0 : decode cX7_set 0 = .ok (.iload_n 1, 1) := by decide +kernel
theorem dX7_set_1 : decode cX7_set 1 = .ok (.ifCond .lt 20, 3) := by decide +kernel
theorem dX7_set_4 : decode cX7_set 4 = .ok (.iload_n 1, 1) := by decide +kernel
theorem dX7_set_5 : decode cX7_set 5 = .ok (.iconst 4, 1) := by decide +kernel
theorem dX7_set_6 : decode cX7_set 6 = .ok (.if_icmp .gt 15, 3) := by decide +kernel
theorem dX7_set_9 : decode cX7_set 9 = .ok (.iload_n 3, 1) := by decide +kernel
theorem dX7_set_10 : decode cX7_set 10 = .ok (.ifCond .lt 11, 3) := by decide +kernel
theorem dX7_set_13 : decode cX7_set 13 = .ok (.iload_n 3, 1) := by decide +kernel
theorem dX7_set_14 : decode cX7_set 14 = .ok (.iload_n 1, 1) := by decide +kernel
theorem dX7_set_15 : decode cX7_set 15 = .ok (.invokestatic 81, 3) := by decide +kernel
theorem dX7_set_18 : decode cX7_set 18 = .ok (.if_icmp .le 6, 3) := by decide +kernel
theorem dX7_set_21 : decode cX7_set 21 = .ok (.bipush (-2), 2) := by decide +kernel
theorem dX7_set_23 : decode cX7_set 23 = .ok (.ireturn, 1) := by decide +kernel
theorem dX7_set_24 : decode cX7_set 24 = .ok (.iload_n 1, 1) := by decide +kernel
theorem dX7_set_25 : decode cX7_set 25 = .ok (.ifCond .ne 17, 3) := by decide +kernel
theorem dX7_set_28 : decode cX7_set 28 = .ok (.aload_n 0, 1) := by decide +kernel
theorem dX7_set_29 : decode cX7_set 29 = .ok (.getfield 85, 3) := by decide +kernel
theorem dX7_set_32 : decode cX7_set 32 = .ok (.istore 4, 2) := by decide +kernel
theorem dX7_set_34 : decode cX7_set 34 = .ok (.aload_n 0, 1) := by decide +kernel
theorem dX7_set_35 : decode cX7_set 35 = .ok (.iload_n 3, 1) := by decide +kernel
theorem dX7_set_36 : decode cX7_set 36 = .ok (.putfield 85, 3) := by decide +kernel
theorem dX7_set_39 : decode cX7_set 39 = .ok (.iload 4, 2) := by decide +kernel
theorem dX7_set_41 : decode cX7_set 41 = .ok (.ireturn, 1) := by decide +kernel
theorem dX7_set_42 : decode cX7_set 42 = .ok (.aload_n 0, 1) := by decide +kernel
theorem dX7_set_43 : decode cX7_set 43 = .ok (.iload_n 2, 1) := by decide +kernel
theorem dX7_set_44 : decode cX7_set 44 = .ok (.invokevirtual 88, 3) := by decide +kernel
theorem dX7_set_47 : decode cX7_set 47 = .ok (.astore 4, 2) := by decide +kernel
theorem dX7_set_49 : decode cX7_set 49 = .ok (.aload 4, 2) := by decide +kernel
theorem dX7_set_51 : decode cX7_set 51 = .ok (.ifnonnull 6, 3) := by decide +kernel
theorem dX7_set_54 : decode cX7_set 54 = .ok (.bipush (-2), 2) := by decide +kernel
theorem dX7_set_56 : decode cX7_set 56 = .ok (.ireturn, 1) := by decide +kernel
theorem dX7_set_57 : decode cX7_set 57 = .ok (.aload 4, 2) := by decide +kernel
theorem dX7_set_59 : decode cX7_set 59 = .ok (.iload_n 1, 1) := by decide +kernel
theorem dX7_set_60 : decode cX7_set 60 = .ok (.invokevirtual 92, 3) := by decide +kernel
theorem dX7_set_63 : decode cX7_set 63 = .ok (.istore 5, 2) := by decide +kernel
theorem dX7_set_65 : decode cX7_set 65 = .ok (.aload 4, 2) := by decide +kernel
theorem dX7_set_67 : decode cX7_set 67 = .ok (.iload_n 1, 1) := by decide +kernel
theorem dX7_set_68 : decode cX7_set 68 = .ok (.iload_n 3, 1) := by decide +kernel
theorem dX7_set_69 : decode cX7_set 69 = .ok (.invokevirtual 95, 3) := by decide +kernel
theorem dX7_set_72 : decode cX7_set 72 = .ok (.iload 5, 2) := by decide +kernel
theorem dX7_set_74 : decode cX7_set 74 = .ok (.ireturn, 1) := by decide +kernel
theorem dX7_asker_0 : decode cX7_asker 0 = .ok (.iload_n 1, 1) := by decide +kernel
theorem dX7_asker_1 : decode cX7_asker 1 = .ok (.ifCond .lt 19, 3) := by decide +kernel
theorem dX7_asker_4 : decode cX7_asker 4 = .ok (.iload_n 1, 1) := by decide +kernel
theorem dX7_asker_5 : decode cX7_asker 5 = .ok (.bipush 6, 2) := by decide +kernel
theorem dX7_asker_7 : decode cX7_asker 7 = .ok (.if_icmp .ge 13, 3) := by decide +kernel
theorem dX7_asker_10 : decode cX7_asker 10 = .ok (.iload_n 2, 1) := by decide +kernel
theorem dX7_asker_11 : decode cX7_asker 11 = .ok (.ifCond .lt 9, 3) := by decide +kernel
theorem dX7_asker_14 : decode cX7_asker 14 = .ok (.iload_n 2, 1) := by decide +kernel
theorem dX7_asker_15 : decode cX7_asker 15 = .ok (.bipush 9, 2) := by decide +kernel
theorem dX7_asker_17 : decode cX7_asker 17 = .ok (.if_icmp .le 6, 3) := by decide +kernel
theorem dX7_asker_20 : decode cX7_asker 20 = .ok (.bipush (-2), 2) := by decide +kernel
theorem dX7_asker_22 : decode cX7_asker 22 = .ok (.ireturn, 1) := by decide +kernel
theorem dX7_asker_23 : decode cX7_asker 23 = .ok (.aload_n 0, 1) := by decide +kernel
theorem dX7_asker_24 : decode cX7_asker 24 = .ok (.getfield 99, 3) := by decide +kernel
theorem dX7_asker_27 : decode cX7_asker 27 = .ok (.ifCond .lt 15, 3) := by decide +kernel
theorem dX7_asker_30 : decode cX7_asker 30 = .ok (.aload_n 0, 1) := by decide +kernel
theorem dX7_asker_31 : decode cX7_asker 31 = .ok (.getfield 99, 3) := by decide +kernel
theorem dX7_asker_34 : decode cX7_asker 34 = .ok (.aload_n 0, 1) := by decide +kernel
theorem dX7_asker_35 : decode cX7_asker 35 = .ok (.getfield 21, 3) := by decide +kernel
theorem dX7_asker_38 : decode cX7_asker 38 = .ok (.arraylength, 1) := by decide +kernel
theorem dX7_asker_39 : decode cX7_asker 39 = .ok (.if_icmp .lt 6, 3) := by decide +kernel
theorem dX7_asker_42 : decode cX7_asker 42 = .ok (.bipush (-4), 2) := by decide +kernel
theorem dX7_asker_44 : decode cX7_asker 44 = .ok (.ireturn, 1) := by decide +kernel
theorem dX7_asker_45 : decode cX7_asker 45 = .ok (.aload_n 0, 1) := by decide +kernel
theorem dX7_asker_46 : decode cX7_asker 46 = .ok (.getfield 21, 3) := by decide +kernel
theorem dX7_asker_49 : decode cX7_asker 49 = .ok (.aload_n 0, 1) := by decide +kernel
theorem dX7_asker_50 : decode cX7_asker 50 = .ok (.getfield 99, 3) := by decide +kernel
theorem dX7_asker_53 : decode cX7_asker 53 = .ok (.aaload, 1) := by decide +kernel
theorem dX7_asker_54 : decode cX7_asker 54 = .ok (.astore_n 3, 1) := by decide +kernel
theorem dX7_asker_55 : decode cX7_asker 55 = .ok (.aload_n 3, 1) := by decide +kernel
theorem dX7_asker_56 : decode cX7_asker 56 = .ok (.ifnonnull 6, 3) := by decide +kernel
theorem dX7_asker_59 : decode cX7_asker 59 = .ok (.bipush (-4), 2) := by decide +kernel
theorem dX7_asker_61 : decode cX7_asker 61 = .ok (.ireturn, 1) := by decide +kernel
theorem dX7_asker_62 : decode cX7_asker 62 = .ok (.aload_n 3, 1) := by decide +kernel
theorem dX7_asker_63 : decode cX7_asker 63 = .ok (.iload_n 1, 1) := by decide +kernel
theorem dX7_asker_64 : decode cX7_asker 64 = .ok (.iload_n 2, 1) := by decide +kernel
theorem dX7_asker_65 : decode cX7_asker 65 = .ok (.invokevirtual 102, 3) := by decide +kernel
theorem dX7_asker_68 : decode cX7_asker 68 = .ok (.aload_n 0, 1) := by decide +kernel
theorem dX7_asker_69 : decode cX7_asker 69 = .ok (.dup, 1) := by decide +kernel
theorem dX7_asker_70 : decode cX7_asker 70 = .ok (.getfield 99, 3) := by decide +kernel
theorem dX7_asker_73 : decode cX7_asker 73 = .ok (.iconst 1, 1) := by decide +kernel
theorem dX7_asker_74 : decode cX7_asker 74 = .ok (.iadd, 1) := by decide +kernel
theorem dX7_asker_75 : decode cX7_asker 75 = .ok (.putfield 99, 3) := by decide +kernel
theorem dX7_asker_78 : decode cX7_asker 78 = .ok (.aload_n 0, 1) := by decide +kernel
theorem dX7_asker_79 : decode cX7_asker 79 = .ok (.getfield 99, 3) := by decide +kernel
theorem dX7_asker_82 : decode cX7_asker 82 = .ok (.iconst 1, 1) := by decide +kernel
theorem dX7_asker_83 : decode cX7_asker 83 = .ok (.isub, 1) := by decide +kernel
theorem dX7_asker_84 : decode cX7_asker 84 = .ok (.ireturn, 1) := by decide +kernel
theorem dX7_told_0 : decode cX7_told 0 = .ok (.iload_n 2, 1) := by decide +kernel
theorem dX7_told_1 : decode cX7_told 1 = .ok (.ifCond .ne 8, 3) := by decide +kernel
theorem dX7_told_4 : decode cX7_told 4 = .ok (.aload_n 0, 1) := by decide +kernel
theorem dX7_told_5 : decode cX7_told 5 = .ok (.getfield 85, 3) := by decide +kernel
theorem dX7_told_8 : decode cX7_told 8 = .ok (.ireturn, 1) := by decide +kernel
theorem dX7_told_9 : decode cX7_told 9 = .ok (.iload_n 2, 1) := by decide +kernel
theorem dX7_told_10 : decode cX7_told 10 = .ok (.bipush 7, 2) := by decide +kernel
theorem dX7_told_12 : decode cX7_told 12 = .ok (.if_icmp .ne 22, 3) := by decide +kernel
theorem dX7_told_15 : decode cX7_told 15 = .ok (.iload_n 1, 1) := by decide +kernel
theorem dX7_told_16 : decode cX7_told 16 = .ok (.invokestatic 77, 3) := by decide +kernel
theorem dX7_told_19 : decode cX7_told 19 = .ok (.ifCond .eq 12, 3) := by decide +kernel
theorem dX7_told_22 : decode cX7_told 22 = .ok (.aload_n 0, 1) := by decide +kernel
theorem dX7_told_23 : decode cX7_told 23 = .ok (.getfield 9, 3) := by decide +kernel
theorem dX7_told_26 : decode cX7_told 26 = .ok (.iload_n 1, 1) := by decide +kernel
theorem dX7_told_27 : decode cX7_told 27 = .ok (.iaload, 1) := by decide +kernel
theorem dX7_told_28 : decode cX7_told 28 = .ok (.goto 5, 3) := by decide +kernel
theorem dX7_told_31 : decode cX7_told 31 = .ok (.bipush (-2), 2) := by decide +kernel
theorem dX7_told_33 : decode cX7_told 33 = .ok (.ireturn, 1) := by decide +kernel
theorem dX7_told_34 : decode cX7_told 34 = .ok (.aload_n 0, 1) := by decide +kernel
theorem dX7_told_35 : decode cX7_told 35 = .ok (.iload_n 1, 1) := by decide +kernel
theorem dX7_told_36 : decode cX7_told 36 = .ok (.invokevirtual 88, 3) := by decide +kernel
theorem dX7_told_39 : decode cX7_told 39 = .ok (.astore_n 3, 1) := by decide +kernel
theorem dX7_told_40 : decode cX7_told 40 = .ok (.aload_n 3, 1) := by decide +kernel
theorem dX7_told_41 : decode cX7_told 41 = .ok (.ifnull 13, 3) := by decide +kernel
theorem dX7_told_44 : decode cX7_told 44 = .ok (.iload_n 2, 1) := by decide +kernel
theorem dX7_told_45 : decode cX7_told 45 = .ok (.ifCond .lt 9, 3) := by decide +kernel
theorem dX7_told_48 : decode cX7_told 48 = .ok (.iload_n 2, 1) := by decide +kernel
theorem dX7_told_49 : decode cX7_told 49 = .ok (.bipush 7, 2) := by decide +kernel
theorem dX7_told_51 : decode cX7_told 51 = .ok (.if_icmp .le 6, 3) := by decide +kernel
theorem dX7_told_54 : decode cX7_told 54 = .ok (.bipush (-2), 2) := by decide +kernel
theorem dX7_told_56 : decode cX7_told 56 = .ok (.ireturn, 1) := by decide +kernel
theorem dX7_told_57 : decode cX7_told 57 = .ok (.iload_n 2, 1) := by decide +kernel
theorem dX7_told_58 : decode cX7_told 58 = .ok (.bipush 6, 2) := by decide +kernel
theorem dX7_told_60 : decode cX7_told 60 = .ok (.if_icmp .ne 11, 3) := by decide +kernel
theorem dX7_told_63 : decode cX7_told 63 = .ok (.aload_n 0, 1) := by decide +kernel
theorem dX7_told_64 : decode cX7_told 64 = .ok (.iload_n 1, 1) := by decide +kernel
theorem dX7_told_65 : decode cX7_told 65 = .ok (.invokevirtual 105, 3) := by decide +kernel
theorem dX7_told_68 : decode cX7_told 68 = .ok (.goto 8, 3) := by decide +kernel
theorem dX7_told_71 : decode cX7_told 71 = .ok (.aload_n 3, 1) := by decide +kernel
theorem dX7_told_72 : decode cX7_told 72 = .ok (.iload_n 2, 1) := by decide +kernel
theorem dX7_told_73 : decode cX7_told 73 = .ok (.invokevirtual 92, 3) := by decide +kernel
theorem dX7_told_76 : decode cX7_told 76 = .ok (.ireturn, 1) := by decide +kernel
theorem dX7_asks_0 : decode cX7_asks 0 = .ok (.aload_n 0, 1) := by decide +kernel
theorem dX7_asks_1 : decode cX7_asks 1 = .ok (.iload_n 1, 1) := by decide +kernel
theorem dX7_asks_2 : decode cX7_asks 2 = .ok (.invokevirtual 108, 3) := by decide +kernel
theorem dX7_asks_5 : decode cX7_asks 5 = .ok (.astore 4, 2) := by decide +kernel
theorem dX7_asks_7 : decode cX7_asks 7 = .ok (.aload 4, 2) := by decide +kernel
theorem dX7_asks_9 : decode cX7_asks 9 = .ok (.ifnull 10, 3) := by decide +kernel
theorem dX7_asks_12 : decode cX7_asks 12 = .ok (.iload_n 2, 1) := by decide +kernel
theorem dX7_asks_13 : decode cX7_asks 13 = .ok (.invokestatic 112, 3) := by decide +kernel
theorem dX7_asks_16 : decode cX7_asks 16 = .ok (.ifCond .ne 6, 3) := by decide +kernel
theorem dX7_asks_19 : decode cX7_asks 19 = .ok (.bipush (-2), 2) := by decide +kernel
theorem dX7_asks_21 : decode cX7_asks 21 = .ok (.ireturn, 1) := by decide +kernel
theorem dX7_asks_22 : decode cX7_asks 22 = .ok (.iload_n 3, 1) := by decide +kernel
theorem dX7_asks_23 : decode cX7_asks 23 = .ok (.tableswitch 57 0 3 #[29, 36, 43, 50], 29) := by decide +kernel
theorem dX7_asks_52 : decode cX7_asks 52 = .ok (.aload 4, 2) := by decide +kernel
theorem dX7_asks_54 : decode cX7_asks 54 = .ok (.iload_n 2, 1) := by decide +kernel
theorem dX7_asks_55 : decode cX7_asks 55 = .ok (.invokevirtual 115, 3) := by decide +kernel
theorem dX7_asks_58 : decode cX7_asks 58 = .ok (.ireturn, 1) := by decide +kernel
theorem dX7_asks_59 : decode cX7_asks 59 = .ok (.aload 4, 2) := by decide +kernel
theorem dX7_asks_61 : decode cX7_asks 61 = .ok (.iload_n 2, 1) := by decide +kernel
theorem dX7_asks_62 : decode cX7_asks 62 = .ok (.invokevirtual 118, 3) := by decide +kernel
theorem dX7_asks_65 : decode cX7_asks 65 = .ok (.ireturn, 1) := by decide +kernel
theorem dX7_asks_66 : decode cX7_asks 66 = .ok (.aload 4, 2) := by decide +kernel
theorem dX7_asks_68 : decode cX7_asks 68 = .ok (.iload_n 2, 1) := by decide +kernel
theorem dX7_asks_69 : decode cX7_asks 69 = .ok (.invokevirtual 121, 3) := by decide +kernel
theorem dX7_asks_72 : decode cX7_asks 72 = .ok (.ireturn, 1) := by decide +kernel
theorem dX7_asks_73 : decode cX7_asks 73 = .ok (.aload 4, 2) := by decide +kernel
theorem dX7_asks_75 : decode cX7_asks 75 = .ok (.iload_n 2, 1) := by decide +kernel
theorem dX7_asks_76 : decode cX7_asks 76 = .ok (.invokevirtual 124, 3) := by decide +kernel
theorem dX7_asks_79 : decode cX7_asks 79 = .ok (.ireturn, 1) := by decide +kernel
theorem dX7_asks_80 : decode cX7_asks 80 = .ok (.bipush (-2), 2) := by decide +kernel
theorem dX7_asks_82 : decode cX7_asks 82 = .ok (.ireturn, 1) := by decide +kernel
theorem dX7_glad_0 : decode cX7_glad 0 = .ok (.aload_n 0, 1) := by decide +kernel
theorem dX7_glad_1 : decode cX7_glad 1 = .ok (.iload_n 1, 1) := by decide +kernel
theorem dX7_glad_2 : decode cX7_glad 2 = .ok (.invokevirtual 108, 3) := by decide +kernel
theorem dX7_glad_5 : decode cX7_glad 5 = .ok (.astore_n 3, 1) := by decide +kernel
theorem dX7_glad_6 : decode cX7_glad 6 = .ok (.aload_n 3, 1) := by decide +kernel
theorem dX7_glad_7 : decode cX7_glad 7 = .ok (.ifnull 10, 3) := by decide +kernel
theorem dX7_glad_10 : decode cX7_glad 10 = .ok (.iload_n 2, 1) := by decide +kernel
theorem dX7_glad_11 : decode cX7_glad 11 = .ok (.invokestatic 77, 3) := by decide +kernel
theorem dX7_glad_14 : decode cX7_glad 14 = .ok (.ifCond .ne 9, 3) := by decide +kernel
theorem dX7_glad_17 : decode cX7_glad 17 = .ok (.sipush (-1000), 3) := by decide +kernel
theorem dX7_glad_20 : decode cX7_glad 20 = .ok (.goto 8, 3) := by decide +kernel
theorem dX7_glad_23 : decode cX7_glad 23 = .ok (.aload_n 3, 1) := by decide +kernel
theorem dX7_glad_24 : decode cX7_glad 24 = .ok (.iload_n 2, 1) := by decide +kernel
theorem dX7_glad_25 : decode cX7_glad 25 = .ok (.invokevirtual 127, 3) := by decide +kernel
theorem dX7_glad_28 : decode cX7_glad 28 = .ok (.ireturn, 1) := by decide +kernel
theorem dX7_feed_0 : decode cX7_feed 0 = .ok (.iload_n 1, 1) := by decide +kernel
theorem dX7_feed_1 : decode cX7_feed 1 = .ok (.ifCond .lt 10, 3) := by decide +kernel
theorem dX7_feed_4 : decode cX7_feed 4 = .ok (.iload_n 1, 1) := by decide +kernel
theorem dX7_feed_5 : decode cX7_feed 5 = .ok (.sipush 255, 3) := by decide +kernel
theorem dX7_feed_8 : decode cX7_feed 8 = .ok (.if_icmp .le 6, 3) := by decide +kernel
theorem dX7_feed_11 : decode cX7_feed 11 = .ok (.bipush (-2), 2) := by decide +kernel
theorem dX7_feed_13 : decode cX7_feed 13 = .ok (.ireturn, 1) := by decide +kernel
theorem dX7_feed_14 : decode cX7_feed 14 = .ok (.aload_n 0, 1) := by decide +kernel
theorem dX7_feed_15 : decode cX7_feed 15 = .ok (.getfield 130, 3) := by decide +kernel
theorem dX7_feed_18 : decode cX7_feed 18 = .ok (.ifCond .lt 15, 3) := by decide +kernel
theorem dX7_feed_21 : decode cX7_feed 21 = .ok (.aload_n 0, 1) := by decide +kernel
theorem dX7_feed_22 : decode cX7_feed 22 = .ok (.getfield 130, 3) := by decide +kernel
theorem dX7_feed_25 : decode cX7_feed 25 = .ok (.aload_n 0, 1) := by decide +kernel
theorem dX7_feed_26 : decode cX7_feed 26 = .ok (.getfield 16, 3) := by decide +kernel
theorem dX7_feed_29 : decode cX7_feed 29 = .ok (.arraylength, 1) := by decide +kernel
theorem dX7_feed_30 : decode cX7_feed 30 = .ok (.if_icmp .lt 6, 3) := by decide +kernel
theorem dX7_feed_33 : decode cX7_feed 33 = .ok (.bipush (-4), 2) := by decide +kernel
theorem dX7_feed_35 : decode cX7_feed 35 = .ok (.ireturn, 1) := by decide +kernel
theorem dX7_feed_36 : decode cX7_feed 36 = .ok (.aload_n 0, 1) := by decide +kernel
theorem dX7_feed_37 : decode cX7_feed 37 = .ok (.getfield 16, 3) := by decide +kernel
theorem dX7_feed_40 : decode cX7_feed 40 = .ok (.aload_n 0, 1) := by decide +kernel
theorem dX7_feed_41 : decode cX7_feed 41 = .ok (.getfield 130, 3) := by decide +kernel
theorem dX7_feed_44 : decode cX7_feed 44 = .ok (.iload_n 1, 1) := by decide +kernel
theorem dX7_feed_45 : decode cX7_feed 45 = .ok (.iastore, 1) := by decide +kernel
theorem dX7_feed_46 : decode cX7_feed 46 = .ok (.aload_n 0, 1) := by decide +kernel
theorem dX7_feed_47 : decode cX7_feed 47 = .ok (.dup, 1) := by decide +kernel
theorem dX7_feed_48 : decode cX7_feed 48 = .ok (.getfield 130, 3) := by decide +kernel
theorem dX7_feed_51 : decode cX7_feed 51 = .ok (.iconst 1, 1) := by decide +kernel
theorem dX7_feed_52 : decode cX7_feed 52 = .ok (.iadd, 1) := by decide +kernel
theorem dX7_feed_53 : decode cX7_feed 53 = .ok (.putfield 130, 3) := by decide +kernel
theorem dX7_feed_56 : decode cX7_feed 56 = .ok (.aload_n 0, 1) := by decide +kernel
theorem dX7_feed_57 : decode cX7_feed 57 = .ok (.getfield 130, 3) := by decide +kernel
theorem dX7_feed_60 : decode cX7_feed 60 = .ok (.ireturn, 1) := by decide +kernel
theorem dX7_text_0 : decode cX7_text 0 = .ok (.aload_n 0, 1) := by decide +kernel
theorem dX7_text_1 : decode cX7_text 1 = .ok (.getfield 60, 3) := by decide +kernel
theorem dX7_text_4 : decode cX7_text 4 = .ok (.bipush 6, 2) := by decide +kernel
theorem dX7_text_6 : decode cX7_text 6 = .ok (.if_icmp .ge 14, 3) := by decide +kernel
theorem dX7_text_9 : decode cX7_text 9 = .ok (.aload_n 0, 1) := by decide +kernel
theorem dX7_text_10 : decode cX7_text 10 = .ok (.aload_n 0, 1) := by decide +kernel
theorem dX7_text_11 : decode cX7_text 11 = .ok (.getfield 60, 3) := by decide +kernel
theorem dX7_text_14 : decode cX7_text 14 = .ok (.invokevirtual 67, 3) := by decide +kernel
theorem dX7_text_17 : decode cX7_text 17 = .ok (.goto 4, 3) := by decide +kernel
theorem dX7_text_20 : decode cX7_text 20 = .ok (.aconst_null, 1) := by decide +kernel
theorem dX7_text_21 : decode cX7_text 21 = .ok (.astore_n 1, 1) := by decide +kernel
theorem dX7_text_22 : decode cX7_text 22 = .ok (.aload_n 1, 1) := by decide +kernel
theorem dX7_text_23 : decode cX7_text 23 = .ok (.ifnonnull 6, 3) := by decide +kernel
theorem dX7_text_26 : decode cX7_text 26 = .ok (.bipush (-4), 2) := by decide +kernel
theorem dX7_text_28 : decode cX7_text 28 = .ok (.ireturn, 1) := by decide +kernel
theorem dX7_text_29 : decode cX7_text 29 = .ok (.aload_n 0, 1) := by decide +kernel
theorem dX7_text_30 : decode cX7_text 30 = .ok (.getfield 49, 3) := by decide +kernel
theorem dX7_text_33 : decode cX7_text 33 = .ok (.aload_n 0, 1) := by decide +kernel
theorem dX7_text_34 : decode cX7_text 34 = .ok (.getfield 130, 3) := by decide +kernel
theorem dX7_text_37 : decode cX7_text 37 = .ok (.aload_n 1, 1) := by decide +kernel
theorem dX7_text_38 : decode cX7_text 38 = .ok (.invokevirtual 133, 3) := by decide +kernel
theorem dX7_text_41 : decode cX7_text 41 = .ok (.istore_n 2, 1) := by decide +kernel
theorem dX7_text_42 : decode cX7_text 42 = .ok (.aload_n 0, 1) := by decide +kernel
theorem dX7_text_43 : decode cX7_text 43 = .ok (.iconst 0, 1) := by decide +kernel
theorem dX7_text_44 : decode cX7_text 44 = .ok (.putfield 130, 3) := by decide +kernel
theorem dX7_text_47 : decode cX7_text 47 = .ok (.iload_n 2, 1) := by decide +kernel
theorem dX7_text_48 : decode cX7_text 48 = .ok (.iconst (-1), 1) := by decide +kernel
theorem dX7_text_49 : decode cX7_text 49 = .ok (.if_icmp .eq 8, 3) := by decide +kernel
theorem dX7_text_52 : decode cX7_text 52 = .ok (.bipush (-100), 2) := by decide +kernel
theorem dX7_text_54 : decode cX7_text 54 = .ok (.iload_n 2, 1) := by decide +kernel
theorem dX7_text_55 : decode cX7_text 55 = .ok (.isub, 1) := by decide +kernel
theorem dX7_text_56 : decode cX7_text 56 = .ok (.ireturn, 1) := by decide +kernel
theorem dX7_text_57 : decode cX7_text 57 = .ok (.aload_n 0, 1) := by decide +kernel
theorem dX7_text_58 : decode cX7_text 58 = .ok (.dup, 1) := by decide +kernel
theorem dX7_text_59 : decode cX7_text 59 = .ok (.getfield 60, 3) := by decide +kernel
theorem dX7_text_62 : decode cX7_text 62 = .ok (.iconst 1, 1) := by decide +kernel
theorem dX7_text_63 : decode cX7_text 63 = .ok (.iadd, 1) := by decide +kernel
theorem dX7_text_64 : decode cX7_text 64 = .ok (.putfield 60, 3) := by decide +kernel
theorem dX7_text_67 : decode cX7_text 67 = .ok (.aload_n 0, 1) := by decide +kernel
theorem dX7_text_68 : decode cX7_text 68 = .ok (.getfield 60, 3) := by decide +kernel
theorem dX7_text_71 : decode cX7_text 71 = .ok (.iconst 1, 1) := by decide +kernel
theorem dX7_text_72 : decode cX7_text 72 = .ok (.isub, 1) := by decide +kernel
theorem dX7_text_73 : decode cX7_text 73 = .ok (.ireturn, 1) := by decide +kernel
theorem dX7_force_0 : decode cX7_force 0 = .ok (.iload_n 1, 1) := by decide +kernel
theorem dX7_force_1 : decode cX7_force 1 = .ok (.ifCond .lt 11, 3) := by decide +kernel
theorem dX7_force_4 : decode cX7_force 4 = .ok (.iload_n 1, 1) := by decide +kernel
theorem dX7_force_5 : decode cX7_force 5 = .ok (.aload_n 0, 1) := by decide +kernel
theorem dX7_force_6 : decode cX7_force 6 = .ok (.getfield 60, 3) := by decide +kernel
theorem dX7_force_9 : decode cX7_force 9 = .ok (.if_icmp .lt 6, 3) := by decide +kernel
theorem dX7_force_12 : decode cX7_force 12 = .ok (.bipush (-2), 2) := by decide +kernel
theorem dX7_force_14 : decode cX7_force 14 = .ok (.ireturn, 1) := by decide +kernel
theorem dX7_force_15 : decode cX7_force 15 = .ok (.aload_n 0, 1) := by decide +kernel
theorem dX7_force_16 : decode cX7_force 16 = .ok (.getfield 137, 3) := by decide +kernel
theorem dX7_force_19 : decode cX7_force 19 = .ok (.istore_n 2, 1) := by decide +kernel
theorem dX7_force_20 : decode cX7_force 20 = .ok (.aload_n 0, 1) := by decide +kernel
theorem dX7_force_21 : decode cX7_force 21 = .ok (.iload_n 1, 1) := by decide +kernel
theorem dX7_force_22 : decode cX7_force 22 = .ok (.putfield 137, 3) := by decide +kernel
theorem dX7_force_25 : decode cX7_force 25 = .ok (.iload_n 2, 1) := by decide +kernel
theorem dX7_force_26 : decode cX7_force 26 = .ok (.ireturn, 1) := by decide +kernel
theorem dX7_ask_0 : decode cX7_ask 0 = .ok (.aload_n 0, 1) := by decide +kernel
theorem dX7_ask_1 : decode cX7_ask 1 = .ok (.iload_n 1, 1) := by decide +kernel
theorem dX7_ask_2 : decode cX7_ask 2 = .ok (.invokevirtual 108, 3) := by decide +kernel
theorem dX7_ask_5 : decode cX7_ask 5 = .ok (.astore_n 3, 1) := by decide +kernel
theorem dX7_ask_6 : decode cX7_ask 6 = .ok (.aload_n 0, 1) := by decide +kernel
theorem dX7_ask_7 : decode cX7_ask 7 = .ok (.iload_n 1, 1) := by decide +kernel
theorem dX7_ask_8 : decode cX7_ask 8 = .ok (.invokevirtual 88, 3) := by decide +kernel
theorem dX7_ask_11 : decode cX7_ask 11 = .ok (.astore 4, 2) := by decide +kernel
theorem dX7_ask_13 : decode cX7_ask 13 = .ok (.aload_n 3, 1) := by decide +kernel
theorem dX7_ask_14 : decode cX7_ask 14 = .ok (.ifnull 15, 3) := by decide +kernel
theorem dX7_ask_17 : decode cX7_ask 17 = .ok (.aload 4, 2) := by decide +kernel
theorem dX7_ask_19 : decode cX7_ask 19 = .ok (.ifnull 10, 3) := by decide +kernel
theorem dX7_ask_22 : decode cX7_ask 22 = .ok (.iload_n 2, 1) := by decide +kernel
theorem dX7_ask_23 : decode cX7_ask 23 = .ok (.invokestatic 112, 3) := by decide +kernel
theorem dX7_ask_26 : decode cX7_ask 26 = .ok (.ifCond .ne 6, 3) := by decide +kernel
theorem dX7_ask_29 : decode cX7_ask 29 = .ok (.bipush (-2), 2) := by decide +kernel
theorem dX7_ask_31 : decode cX7_ask 31 = .ok (.ireturn, 1) := by decide +kernel
theorem dX7_ask_32 : decode cX7_ask 32 = .ok (.aload_n 3, 1) := by decide +kernel
theorem dX7_ask_33 : decode cX7_ask 33 = .ok (.iload_n 2, 1) := by decide +kernel
theorem dX7_ask_34 : decode cX7_ask 34 = .ok (.invokevirtual 140, 3) := by decide +kernel
theorem dX7_ask_37 : decode cX7_ask 37 = .ok (.istore 5, 2) := by decide +kernel
theorem dX7_ask_39 : decode cX7_ask 39 = .ok (.aload_n 3, 1) := by decide +kernel
theorem dX7_ask_40 : decode cX7_ask 40 = .ok (.aload 4, 2) := by decide +kernel
theorem dX7_ask_42 : decode cX7_ask 42 = .ok (.invokevirtual 143, 3) := by decide +kernel
theorem dX7_ask_45 : decode cX7_ask 45 = .ok (.iload 5, 2) := by decide +kernel
theorem dX7_ask_47 : decode cX7_ask 47 = .ok (.ireturn, 1) := by decide +kernel
theorem dX7_day_0 : decode cX7_day 0 = .ok (.aload_n 0, 1) := by decide +kernel
theorem dX7_day_1 : decode cX7_day 1 = .ok (.getfield 85, 3) := by decide +kernel
theorem dX7_day_4 : decode cX7_day 4 = .ok (.sipush 999, 3) := by decide +kernel
theorem dX7_day_7 : decode cX7_day 7 = .ok (.if_icmp .lt 6, 3) := by decide +kernel
theorem dX7_day_10 : decode cX7_day 10 = .ok (.bipush (-3), 2) := by decide +kernel
theorem dX7_day_12 : decode cX7_day 12 = .ok (.ireturn, 1) := by decide +kernel
theorem dX7_day_13 : decode cX7_day 13 = .ok (.aload_n 0, 1) := by decide +kernel
theorem dX7_day_14 : decode cX7_day 14 = .ok (.dup, 1) := by decide +kernel
theorem dX7_day_15 : decode cX7_day 15 = .ok (.getfield 85, 3) := by decide +kernel
theorem dX7_day_18 : decode cX7_day 18 = .ok (.iconst 1, 1) := by decide +kernel
theorem dX7_day_19 : decode cX7_day 19 = .ok (.iadd, 1) := by decide +kernel
theorem dX7_day_20 : decode cX7_day 20 = .ok (.putfield 85, 3) := by decide +kernel
theorem dX7_day_23 : decode cX7_day 23 = .ok (.aload_n 0, 1) := by decide +kernel
theorem dX7_day_24 : decode cX7_day 24 = .ok (.getfield 85, 3) := by decide +kernel
theorem dX7_day_27 : decode cX7_day 27 = .ok (.ireturn, 1) := by decide +kernel
theorem dX7_row_0 : decode cX7_row 0 = .ok (.aload_n 0, 1) := by decide +kernel
theorem dX7_row_1 : decode cX7_row 1 = .ok (.iload_n 2, 1) := by decide +kernel
theorem dX7_row_2 : decode cX7_row 2 = .ok (.invokevirtual 108, 3) := by decide +kernel
theorem dX7_row_5 : decode cX7_row 5 = .ok (.astore 4, 2) := by decide +kernel
theorem dX7_row_7 : decode cX7_row 7 = .ok (.aload_n 0, 1) := by decide +kernel
theorem dX7_row_8 : decode cX7_row 8 = .ok (.iload_n 1, 1) := by decide +kernel
theorem dX7_row_9 : decode cX7_row 9 = .ok (.invokevirtual 147, 3) := by decide +kernel
theorem dX7_row_12 : decode cX7_row 12 = .ok (.astore 5, 2) := by decide +kernel
theorem dX7_row_14 : decode cX7_row 14 = .ok (.aload 5, 2) := by decide +kernel
theorem dX7_row_16 : decode cX7_row 16 = .ok (.ifnull 17, 3) := by decide +kernel
theorem dX7_row_19 : decode cX7_row 19 = .ok (.aload 4, 2) := by decide +kernel
theorem dX7_row_21 : decode cX7_row 21 = .ok (.ifnull 12, 3) := by decide +kernel
theorem dX7_row_24 : decode cX7_row 24 = .ok (.iload_n 3, 1) := by decide +kernel
theorem dX7_row_25 : decode cX7_row 25 = .ok (.ifCond .lt 8, 3) := by decide +kernel
theorem dX7_row_28 : decode cX7_row 28 = .ok (.iload_n 3, 1) := by decide +kernel
theorem dX7_row_29 : decode cX7_row 29 = .ok (.iconst 5, 1) := by decide +kernel
theorem dX7_row_30 : decode cX7_row 30 = .ok (.if_icmp .le 7, 3) := by decide +kernel
theorem dX7_row_33 : decode cX7_row 33 = .ok (.sipush (-1000), 3) := by decide +kernel
theorem dX7_row_36 : decode cX7_row 36 = .ok (.ireturn, 1) := by decide +kernel
theorem dX7_row_37 : decode cX7_row 37 = .ok (.aload 5, 2) := by decide +kernel
theorem dX7_row_39 : decode cX7_row 39 = .ok (.invokestatic 151, 3) := by decide +kernel
theorem dX7_row_42 : decode cX7_row 42 = .ok (.istore 6, 2) := by decide +kernel
theorem dX7_row_44 : decode cX7_row 44 = .ok (.iload 6, 2) := by decide +kernel
theorem dX7_row_46 : decode cX7_row 46 = .ok (.ifCond .eq 6, 3) := by decide +kernel
theorem dX7_row_49 : decode cX7_row 49 = .ok (.iload 6, 2) := by decide +kernel
theorem dX7_row_51 : decode cX7_row 51 = .ok (.ireturn, 1) := by decide +kernel
theorem dX7_row_52 : decode cX7_row 52 = .ok (.aload 4, 2) := by decide +kernel
theorem dX7_row_54 : decode cX7_row 54 = .ok (.aload 5, 2) := by decide +kernel
theorem dX7_row_56 : decode cX7_row 56 = .ok (.invokestatic 155, 3) := by decide +kernel
theorem dX7_row_59 : decode cX7_row 59 = .ok (.iload_n 3, 1) := by decide +kernel
theorem dX7_row_60 : decode cX7_row 60 = .ok (.tableswitch 66 0 4 #[36, 42, 48, 54, 60], 36) := by decide +kernel
theorem dX7_row_96 : decode cX7_row 96 = .ok (.aload 4, 2) := by decide +kernel
theorem dX7_row_98 : decode cX7_row 98 = .ok (.getfield 159, 3) := by decide +kernel
theorem dX7_row_101 : decode cX7_row 101 = .ok (.ireturn, 1) := by decide +kernel
theorem dX7_row_102 : decode cX7_row 102 = .ok (.aload 4, 2) := by decide +kernel
theorem dX7_row_104 : decode cX7_row 104 = .ok (.getfield 162, 3) := by decide +kernel
theorem dX7_row_107 : decode cX7_row 107 = .ok (.ireturn, 1) := by decide +kernel
theorem dX7_row_108 : decode cX7_row 108 = .ok (.aload 4, 2) := by decide +kernel
theorem dX7_row_110 : decode cX7_row 110 = .ok (.getfield 165, 3) := by decide +kernel
theorem dX7_row_113 : decode cX7_row 113 = .ok (.ireturn, 1) := by decide +kernel
theorem dX7_row_114 : decode cX7_row 114 = .ok (.aload 4, 2) := by decide +kernel
theorem dX7_row_116 : decode cX7_row 116 = .ok (.getfield 168, 3) := by decide +kernel
theorem dX7_row_119 : decode cX7_row 119 = .ok (.ireturn, 1) := by decide +kernel
theorem dX7_row_120 : decode cX7_row 120 = .ok (.aload 4, 2) := by decide +kernel
theorem dX7_row_122 : decode cX7_row 122 = .ok (.getfield 171, 3) := by decide +kernel
theorem dX7_row_125 : decode cX7_row 125 = .ok (.ireturn, 1) := by decide +kernel
theorem dX7_row_126 : decode cX7_row 126 = .ok (.aload 4, 2) := by decide +kernel
theorem dX7_row_128 : decode cX7_row 128 = .ok (.getfield 174, 3) := by decide +kernel
theorem dX7_row_131 : decode cX7_row 131 = .ok (.ireturn, 1) := by decide +kernel
theorem dX7_rows_0 : decode cX7_rows 0 = .ok (.aload_n 0, 1) := by decide +kernel
theorem dX7_rows_1 : decode cX7_rows 1 = .ok (.iload_n 2, 1) := by decide +kernel
theorem dX7_rows_2 : decode cX7_rows 2 = .ok (.invokevirtual 108, 3) := by decide +kernel
theorem dX7_rows_5 : decode cX7_rows 5 = .ok (.astore_n 3, 1) := by decide +kernel
theorem dX7_rows_6 : decode cX7_rows 6 = .ok (.aload_n 0, 1) := by decide +kernel
theorem dX7_rows_7 : decode cX7_rows 7 = .ok (.iload_n 2, 1) := by decide +kernel
theorem dX7_rows_8 : decode cX7_rows 8 = .ok (.invokevirtual 88, 3) := by decide +kernel
theorem dX7_rows_11 : decode cX7_rows 11 = .ok (.astore 4, 2) := by decide +kernel
theorem dX7_rows_13 : decode cX7_rows 13 = .ok (.aload_n 0, 1) := by decide +kernel
theorem dX7_rows_14 : decode cX7_rows 14 = .ok (.iload_n 1, 1) := by decide +kernel
theorem dX7_rows_15 : decode cX7_rows 15 = .ok (.invokevirtual 147, 3) := by decide +kernel
theorem dX7_rows_18 : decode cX7_rows 18 = .ok (.astore 5, 2) := by decide +kernel
theorem dX7_rows_20 : decode cX7_rows 20 = .ok (.aload 5, 2) := by decide +kernel
theorem dX7_rows_22 : decode cX7_rows 22 = .ok (.ifnull 12, 3) := by decide +kernel
theorem dX7_rows_25 : decode cX7_rows 25 = .ok (.aload_n 3, 1) := by decide +kernel
theorem dX7_rows_26 : decode cX7_rows 26 = .ok (.ifnull 8, 3) := by decide +kernel
theorem dX7_rows_29 : decode cX7_rows 29 = .ok (.aload 4, 2) := by decide +kernel
theorem dX7_rows_31 : decode cX7_rows 31 = .ok (.ifnonnull 7, 3) := by decide +kernel
theorem dX7_rows_34 : decode cX7_rows 34 = .ok (.sipush (-1000), 3) := by decide +kernel
theorem dX7_rows_37 : decode cX7_rows 37 = .ok (.ireturn, 1) := by decide +kernel
theorem dX7_rows_38 : decode cX7_rows 38 = .ok (.aload 5, 2) := by decide +kernel
theorem dX7_rows_40 : decode cX7_rows 40 = .ok (.invokestatic 151, 3) := by decide +kernel
theorem dX7_rows_43 : decode cX7_rows 43 = .ok (.istore 6, 2) := by decide +kernel
theorem dX7_rows_45 : decode cX7_rows 45 = .ok (.iload 6, 2) := by decide +kernel
theorem dX7_rows_47 : decode cX7_rows 47 = .ok (.ifCond .eq 6, 3) := by decide +kernel
theorem dX7_rows_50 : decode cX7_rows 50 = .ok (.iload 6, 2) := by decide +kernel
theorem dX7_rows_52 : decode cX7_rows 52 = .ok (.ireturn, 1) := by decide +kernel
theorem dX7_rows_53 : decode cX7_rows 53 = .ok (.aload_n 3, 1) := by decide +kernel
theorem dX7_rows_54 : decode cX7_rows 54 = .ok (.aload 5, 2) := by decide +kernel
theorem dX7_rows_56 : decode cX7_rows 56 = .ok (.invokestatic 155, 3) := by decide +kernel
theorem dX7_rows_59 : decode cX7_rows 59 = .ok (.aload_n 3, 1) := by decide +kernel
theorem dX7_rows_60 : decode cX7_rows 60 = .ok (.aload 4, 2) := by decide +kernel
theorem dX7_rows_62 : decode cX7_rows 62 = .ok (.invokevirtual 143, 3) := by decide +kernel
theorem dX7_rows_65 : decode cX7_rows 65 = .ok (.aload_n 3, 1) := by decide +kernel
theorem dX7_rows_66 : decode cX7_rows 66 = .ok (.getfield 177, 3) := by decide +kernel
theorem dX7_rows_69 : decode cX7_rows 69 = .ok (.ireturn, 1) := by decide +kernel
theorem dX7_leave_0 : decode cX7_leave 0 = .ok (.aload_n 0, 1) := by decide +kernel
theorem dX7_leave_1 : decode cX7_leave 1 = .ok (.iload_n 1, 1) := by decide +kernel
theorem dX7_leave_2 : decode cX7_leave 2 = .ok (.invokevirtual 108, 3) := by decide +kernel
theorem dX7_leave_5 : decode cX7_leave 5 = .ok (.astore 4, 2) := by decide +kernel
theorem dX7_leave_7 : decode cX7_leave 7 = .ok (.aload 4, 2) := by decide +kernel
theorem dX7_leave_9 : decode cX7_leave 9 = .ok (.ifnull 19, 3) := by decide +kernel
theorem dX7_leave_12 : decode cX7_leave 12 = .ok (.iload_n 2, 1) := by decide +kernel
theorem dX7_leave_13 : decode cX7_leave 13 = .ok (.invokestatic 77, 3) := by decide +kernel
theorem dX7_leave_16 : decode cX7_leave 16 = .ok (.ifCond .eq 12, 3) := by decide +kernel
theorem dX7_leave_19 : decode cX7_leave 19 = .ok (.iload_n 3, 1) := by decide +kernel
theorem dX7_leave_20 : decode cX7_leave 20 = .ok (.ifCond .lt 8, 3) := by decide +kernel
theorem dX7_leave_23 : decode cX7_leave 23 = .ok (.iload_n 3, 1) := by decide +kernel
theorem dX7_leave_24 : decode cX7_leave 24 = .ok (.iconst 1, 1) := by decide +kernel
theorem dX7_leave_25 : decode cX7_leave 25 = .ok (.if_icmp .le 6, 3) := by decide +kernel
theorem dX7_leave_28 : decode cX7_leave 28 = .ok (.bipush (-2), 2) := by decide +kernel
theorem dX7_leave_30 : decode cX7_leave 30 = .ok (.ireturn, 1) := by decide +kernel
theorem dX7_leave_31 : decode cX7_leave 31 = .ok (.aload 4, 2) := by decide +kernel
theorem dX7_leave_33 : decode cX7_leave 33 = .ok (.iload_n 2, 1) := by decide +kernel
theorem dX7_leave_34 : decode cX7_leave 34 = .ok (.invokestatic 180, 3) := by decide +kernel
theorem dX7_leave_37 : decode cX7_leave 37 = .ok (.istore 5, 2) := by decide +kernel
theorem dX7_leave_39 : decode cX7_leave 39 = .ok (.iload_n 3, 1) := by decide +kernel
theorem dX7_leave_40 : decode cX7_leave 40 = .ok (.ifCond .eq 9, 3) := by decide +kernel
theorem dX7_leave_43 : decode cX7_leave 43 = .ok (.iload 5, 2) := by decide +kernel
theorem dX7_leave_45 : decode cX7_leave 45 = .ok (.iconst (-1), 1) := by decide +kernel
theorem dX7_leave_46 : decode cX7_leave 46 = .ok (.if_icmp .ne 8, 3) := by decide +kernel
theorem dX7_leave_49 : decode cX7_leave 49 = .ok (.iload 5, 2) := by decide +kernel
theorem dX7_leave_51 : decode cX7_leave 51 = .ok (.goto 8, 3) := by decide +kernel
theorem dX7_leave_54 : decode cX7_leave 54 = .ok (.iload 5, 2) := by decide +kernel
theorem dX7_leave_56 : decode cX7_leave 56 = .ok (.invokestatic 184, 3) := by decide +kernel
theorem dX7_leave_59 : decode cX7_leave 59 = .ok (.ireturn, 1) := by decide +kernel
theorem dX7_gladdest_0 : decode cX7_gladdest 0 = .ok (.aload_n 0, 1) := by decide +kernel
theorem dX7_gladdest_1 : decode cX7_gladdest 1 = .ok (.iload_n 1, 1) := by decide +kernel
theorem dX7_gladdest_2 : decode cX7_gladdest 2 = .ok (.invokevirtual 108, 3) := by decide +kernel
theorem dX7_gladdest_5 : decode cX7_gladdest 5 = .ok (.astore_n 3, 1) := by decide +kernel
theorem dX7_gladdest_6 : decode cX7_gladdest 6 = .ok (.aload_n 3, 1) := by decide +kernel
theorem dX7_gladdest_7 : decode cX7_gladdest 7 = .ok (.ifnull 12, 3) := by decide +kernel
theorem dX7_gladdest_10 : decode cX7_gladdest 10 = .ok (.iload_n 2, 1) := by decide +kernel
theorem dX7_gladdest_11 : decode cX7_gladdest 11 = .ok (.ifCond .lt 8, 3) := by decide +kernel
theorem dX7_gladdest_14 : decode cX7_gladdest 14 = .ok (.iload_n 2, 1) := by decide +kernel
theorem dX7_gladdest_15 : decode cX7_gladdest 15 = .ok (.iconst 1, 1) := by decide +kernel
theorem dX7_gladdest_16 : decode cX7_gladdest 16 = .ok (.if_icmp .le 7, 3) := by decide +kernel
theorem dX7_gladdest_19 : decode cX7_gladdest 19 = .ok (.sipush (-2000), 3) := by decide +kernel
theorem dX7_gladdest_22 : decode cX7_gladdest 22 = .ok (.ireturn, 1) := by decide +kernel
theorem dX7_gladdest_23 : decode cX7_gladdest 23 = .ok (.aload_n 0, 1) := by decide +kernel
theorem dX7_gladdest_24 : decode cX7_gladdest 24 = .ok (.aload_n 3, 1) := by decide +kernel
theorem dX7_gladdest_25 : decode cX7_gladdest 25 = .ok (.invokevirtual 189, 3) := by decide +kernel
theorem dX7_gladdest_28 : decode cX7_gladdest 28 = .ok (.istore 4, 2) := by decide +kernel
theorem dX7_gladdest_30 : decode cX7_gladdest 30 = .ok (.iload_n 2, 1) := by decide +kernel
theorem dX7_gladdest_31 : decode cX7_gladdest 31 = .ok (.ifCond .ne 6, 3) := by decide +kernel
theorem dX7_gladdest_34 : decode cX7_gladdest 34 = .ok (.iload 4, 2) := by decide +kernel
theorem dX7_gladdest_36 : decode cX7_gladdest 36 = .ok (.ireturn, 1) := by decide +kernel
theorem dX7_gladdest_37 : decode cX7_gladdest 37 = .ok (.iload 4, 2) := by decide +kernel
theorem dX7_gladdest_39 : decode cX7_gladdest 39 = .ok (.iconst (-1), 1) := by decide +kernel
theorem dX7_gladdest_40 : decode cX7_gladdest 40 = .ok (.if_icmp .ne 9, 3) := by decide +kernel
theorem dX7_gladdest_43 : decode cX7_gladdest 43 = .ok (.sipush (-1000), 3) := by decide +kernel
theorem dX7_gladdest_46 : decode cX7_gladdest 46 = .ok (.goto 13, 3) := by decide +kernel
theorem dX7_gladdest_49 : decode cX7_gladdest 49 = .ok (.aload_n 3, 1) := by decide +kernel
theorem dX7_gladdest_50 : decode cX7_gladdest 50 = .ok (.aload_n 3, 1) := by decide +kernel
theorem dX7_gladdest_51 : decode cX7_gladdest 51 = .ok (.iload 4, 2) := by decide +kernel
theorem dX7_gladdest_53 : decode cX7_gladdest 53 = .ok (.invokevirtual 118, 3) := by decide +kernel
theorem dX7_gladdest_56 : decode cX7_gladdest 56 = .ok (.invokevirtual 127, 3) := by decide +kernel
theorem dX7_gladdest_59 : decode cX7_gladdest 59 = .ok (.ireturn, 1) := by decide +kernel
theorem dX7_get_0 : decode cX7_get 0 = .ok (.aload_n 0, 1) := by decide +kernel
theorem dX7_get_1 : decode cX7_get 1 = .ok (.iload_n 1, 1) := by decide +kernel
theorem dX7_get_2 : decode cX7_get 2 = .ok (.invokevirtual 108, 3) := by decide +kernel
theorem dX7_get_5 : decode cX7_get 5 = .ok (.astore 4, 2) := by decide +kernel
theorem dX7_get_7 : decode cX7_get 7 = .ok (.aload 4, 2) := by decide +kernel
theorem dX7_get_9 : decode cX7_get 9 = .ok (.ifnull 19, 3) := by decide +kernel
theorem dX7_get_12 : decode cX7_get 12 = .ok (.iload_n 2, 1) := by decide +kernel
theorem dX7_get_13 : decode cX7_get 13 = .ok (.invokestatic 77, 3) := by decide +kernel
theorem dX7_get_16 : decode cX7_get 16 = .ok (.ifCond .eq 12, 3) := by decide +kernel
theorem dX7_get_19 : decode cX7_get 19 = .ok (.iload_n 3, 1) := by decide +kernel
theorem dX7_get_20 : decode cX7_get 20 = .ok (.ifCond .lt 8, 3) := by decide +kernel
theorem dX7_get_23 : decode cX7_get 23 = .ok (.iload_n 3, 1) := by decide +kernel
theorem dX7_get_24 : decode cX7_get 24 = .ok (.iconst 1, 1) := by decide +kernel
theorem dX7_get_25 : decode cX7_get 25 = .ok (.if_icmp .le 6, 3) := by decide +kernel
theorem dX7_get_28 : decode cX7_get 28 = .ok (.bipush (-2), 2) := by decide +kernel
theorem dX7_get_30 : decode cX7_get 30 = .ok (.ireturn, 1) := by decide +kernel
theorem dX7_get_31 : decode cX7_get 31 = .ok (.aload_n 0, 1) := by decide +kernel
theorem dX7_get_32 : decode cX7_get 32 = .ok (.aload 4, 2) := by decide +kernel
theorem dX7_get_34 : decode cX7_get 34 = .ok (.iload_n 2, 1) := by decide +kernel
theorem dX7_get_35 : decode cX7_get 35 = .ok (.invokevirtual 193, 3) := by decide +kernel
theorem dX7_get_38 : decode cX7_get 38 = .ok (.istore 5, 2) := by decide +kernel
theorem dX7_get_40 : decode cX7_get 40 = .ok (.iload_n 3, 1) := by decide +kernel
theorem dX7_get_41 : decode cX7_get 41 = .ok (.ifCond .eq 9, 3) := by decide +kernel
theorem dX7_get_44 : decode cX7_get 44 = .ok (.iload 5, 2) := by decide +kernel
theorem dX7_get_46 : decode cX7_get 46 = .ok (.iconst (-1), 1) := by decide +kernel
theorem dX7_get_47 : decode cX7_get 47 = .ok (.if_icmp .ne 8, 3) := by decide +kernel
theorem dX7_get_50 : decode cX7_get 50 = .ok (.iload 5, 2) := by decide +kernel
theorem dX7_get_52 : decode cX7_get 52 = .ok (.goto 10, 3) := by decide +kernel
theorem dX7_get_55 : decode cX7_get 55 = .ok (.aload 4, 2) := by decide +kernel
theorem dX7_get_57 : decode cX7_get 57 = .ok (.iload 5, 2) := by decide +kernel
theorem dX7_get_59 : decode cX7_get 59 = .ok (.invokevirtual 124, 3) := by decide +kernel
theorem dX7_get_62 : decode cX7_get 62 = .ok (.ireturn, 1) := by decide +kernel
theorem dX7_map_0 : decode cX7_map 0 = .ok (.aload_n 0, 1) := by decide +kernel
theorem dX7_map_1 : decode cX7_map 1 = .ok (.iload_n 1, 1) := by decide +kernel
theorem dX7_map_2 : decode cX7_map 2 = .ok (.invokevirtual 147, 3) := by decide +kernel
theorem dX7_map_5 : decode cX7_map 5 = .ok (.astore_n 2, 1) := by decide +kernel
theorem dX7_map_6 : decode cX7_map 6 = .ok (.aload_n 2, 1) := by decide +kernel
theorem dX7_map_7 : decode cX7_map 7 = .ok (.ifnonnull 6, 3) := by decide +kernel
theorem dX7_map_10 : decode cX7_map 10 = .ok (.bipush (-2), 2) := by decide +kernel
theorem dX7_map_12 : decode cX7_map 12 = .ok (.ireturn, 1) := by decide +kernel
theorem dX7_map_13 : decode cX7_map 13 = .ok (.aload_n 2, 1) := by decide +kernel
theorem dX7_map_14 : decode cX7_map 14 = .ok (.invokevirtual 196, 3) := by decide +kernel
theorem dX7_map_17 : decode cX7_map 17 = .ok (.ifCond .eq 6, 3) := by decide +kernel
theorem dX7_map_20 : decode cX7_map 20 = .ok (.bipush (-11), 2) := by decide +kernel
theorem dX7_map_22 : decode cX7_map 22 = .ok (.ireturn, 1) := by decide +kernel
theorem dX7_map_23 : decode cX7_map 23 = .ok (.aload_n 2, 1) := by decide +kernel
theorem dX7_map_24 : decode cX7_map 24 = .ok (.invokestatic 200, 3) := by decide +kernel
theorem dX7_map_27 : decode cX7_map 27 = .ok (.ifCond .ne 6, 3) := by decide +kernel
theorem dX7_map_30 : decode cX7_map 30 = .ok (.bipush (-2), 2) := by decide +kernel
theorem dX7_map_32 : decode cX7_map 32 = .ok (.ireturn, 1) := by decide +kernel
theorem dX7_map_33 : decode cX7_map 33 = .ok (.iconst 0, 1) := by decide +kernel
theorem dX7_map_34 : decode cX7_map 34 = .ok (.istore_n 3, 1) := by decide +kernel
theorem dX7_map_35 : decode cX7_map 35 = .ok (.iconst 0, 1) := by decide +kernel
theorem dX7_map_36 : decode cX7_map 36 = .ok (.istore 4, 2) := by decide +kernel
theorem dX7_map_38 : decode cX7_map 38 = .ok (.iload 4, 2) := by decide +kernel
theorem dX7_map_40 : decode cX7_map 40 = .ok (.bipush 12, 2) := by decide +kernel
theorem dX7_map_42 : decode cX7_map 42 = .ok (.if_icmp .ge 39, 3) := by decide +kernel
theorem dX7_map_45 : decode cX7_map 45 = .ok (.iconst 0, 1) := by decide +kernel
theorem dX7_map_46 : decode cX7_map 46 = .ok (.istore 5, 2) := by decide +kernel
theorem dX7_map_48 : decode cX7_map 48 = .ok (.iload 5, 2) := by decide +kernel
theorem dX7_map_50 : decode cX7_map 50 = .ok (.iload 4, 2) := by decide +kernel
theorem dX7_map_52 : decode cX7_map 52 = .ok (.if_icmp .ge 23, 3) := by decide +kernel
theorem dX7_map_55 : decode cX7_map 55 = .ok (.aload_n 2, 1) := by decide +kernel
theorem dX7_map_56 : decode cX7_map 56 = .ok (.iload 4, 2) := by decide +kernel
theorem dX7_map_58 : decode cX7_map 58 = .ok (.iload 5, 2) := by decide +kernel
theorem dX7_map_60 : decode cX7_map 60 = .ok (.invokestatic 204, 3) := by decide +kernel
theorem dX7_map_63 : decode cX7_map 63 = .ok (.ifCond .eq 6, 3) := by decide +kernel
theorem dX7_map_66 : decode cX7_map 66 = .ok (.iinc 3 1, 3) := by decide +kernel
theorem dX7_map_69 : decode cX7_map 69 = .ok (.iinc 5 1, 3) := by decide +kernel
theorem dX7_map_72 : decode cX7_map 72 = .ok (.goto (-24), 3) := by decide +kernel
theorem dX7_map_75 : decode cX7_map 75 = .ok (.iinc 4 1, 3) := by decide +kernel
theorem dX7_map_78 : decode cX7_map 78 = .ok (.goto (-40), 3) := by decide +kernel
theorem dX7_map_81 : decode cX7_map 81 = .ok (.iload_n 3, 1) := by decide +kernel
theorem dX7_map_82 : decode cX7_map 82 = .ok (.ireturn, 1) := by decide +kernel
theorem dX7_net_0 : decode cX7_net 0 = .ok (.iload_n 1, 1) := by decide +kernel
theorem dX7_net_1 : decode cX7_net 1 = .ok (.tableswitch 58 0 3 #[31, 36, 41, 53], 31) := by decide +kernel
theorem dX7_net_32 : decode cX7_net 32 = .ok (.aload_n 0, 1) := by decide +kernel
theorem dX7_net_33 : decode cX7_net 33 = .ok (.invokevirtual 208, 3) := by decide +kernel
theorem dX7_net_36 : decode cX7_net 36 = .ok (.ireturn, 1) := by decide +kernel
theorem dX7_net_37 : decode cX7_net 37 = .ok (.aload_n 0, 1) := by decide +kernel
theorem dX7_net_38 : decode cX7_net 38 = .ok (.invokevirtual 212, 3) := by decide +kernel
theorem dX7_net_41 : decode cX7_net 41 = .ok (.ireturn, 1) := by decide +kernel
theorem dX7_net_42 : decode cX7_net 42 = .ok (.aload_n 0, 1) := by decide +kernel
theorem dX7_net_43 : decode cX7_net 43 = .ok (.aload_n 0, 1) := by decide +kernel
theorem dX7_net_44 : decode cX7_net 44 = .ok (.invokevirtual 212, 3) := by decide +kernel
theorem dX7_net_47 : decode cX7_net 47 = .ok (.invokevirtual 215, 3) := by decide +kernel
theorem dX7_net_50 : decode cX7_net 50 = .ok (.invokestatic 184, 3) := by decide +kernel
theorem dX7_net_53 : decode cX7_net 53 = .ok (.ireturn, 1) := by decide +kernel
theorem dX7_net_54 : decode cX7_net 54 = .ok (.aload_n 0, 1) := by decide +kernel
theorem dX7_net_55 : decode cX7_net 55 = .ok (.invokevirtual 218, 3) := by decide +kernel
theorem dX7_net_58 : decode cX7_net 58 = .ok (.ireturn, 1) := by decide +kernel
theorem dX7_net_59 : decode cX7_net 59 = .ok (.bipush (-2), 2) := by decide +kernel
theorem dX7_net_61 : decode cX7_net 61 = .ok (.ireturn, 1) := by decide +kernel
theorem dX7_share_0 : decode cX7_share 0 = .ok (.aload_n 0, 1) := by decide +kernel
theorem dX7_share_1 : decode cX7_share 1 = .ok (.iload_n 1, 1) := by decide +kernel
theorem dX7_share_2 : decode cX7_share 2 = .ok (.invokevirtual 88, 3) := by decide +kernel
theorem dX7_share_5 : decode cX7_share 5 = .ok (.astore_n 3, 1) := by decide +kernel
theorem dX7_share_6 : decode cX7_share 6 = .ok (.aload_n 3, 1) := by decide +kernel
theorem dX7_share_7 : decode cX7_share 7 = .ok (.ifnull 12, 3) := by decide +kernel
theorem dX7_share_10 : decode cX7_share 10 = .ok (.iload_n 2, 1) := by decide +kernel
theorem dX7_share_11 : decode cX7_share 11 = .ok (.ifCond .lt 8, 3) := by decide +kernel
theorem dX7_share_14 : decode cX7_share 14 = .ok (.iload_n 2, 1) := by decide +kernel
theorem dX7_share_15 : decode cX7_share 15 = .ok (.iconst 1, 1) := by decide +kernel
theorem dX7_share_16 : decode cX7_share 16 = .ok (.if_icmp .le 7, 3) := by decide +kernel
theorem dX7_share_19 : decode cX7_share 19 = .ok (.ldc2_w 221, 3) := by decide +kernel
theorem dX7_share_22 : decode cX7_share 22 = .ok (.lreturn, 1) := by decide +kernel
theorem dX7_share_23 : decode cX7_share 23 = .ok (.aload_n 3, 1) := by decide +kernel
theorem dX7_share_24 : decode cX7_share 24 = .ok (.getfield 223, 3) := by decide +kernel
theorem dX7_share_27 : decode cX7_share 27 = .ok (.invokestatic 184, 3) := by decide +kernel
theorem dX7_share_30 : decode cX7_share 30 = .ok (.bipush 12, 2) := by decide +kernel
theorem dX7_share_32 : decode cX7_share 32 = .ok (.iload_n 2, 1) := by decide +kernel
theorem dX7_share_33 : decode cX7_share 33 = .ok (.invokestatic 224, 3) := by decide +kernel
theorem dX7_share_36 : decode cX7_share 36 = .ok (.lreturn, 1) := by decide +kernel
theorem dX7_tells_0 : decode cX7_tells 0 = .ok (.aload_n 0, 1) := by decide +kernel
theorem dX7_tells_1 : decode cX7_tells 1 = .ok (.iload_n 1, 1) := by decide +kernel
theorem dX7_tells_2 : decode cX7_tells 2 = .ok (.invokevirtual 147, 3) := by decide +kernel
theorem dX7_tells_5 : decode cX7_tells 5 = .ok (.astore 4, 2) := by decide +kernel
theorem dX7_tells_7 : decode cX7_tells 7 = .ok (.aload_n 0, 1) := by decide +kernel
theorem dX7_tells_8 : decode cX7_tells 8 = .ok (.iload_n 2, 1) := by decide +kernel
theorem dX7_tells_9 : decode cX7_tells 9 = .ok (.invokevirtual 108, 3) := by decide +kernel
theorem dX7_tells_12 : decode cX7_tells 12 = .ok (.astore 5, 2) := by decide +kernel
theorem dX7_tells_14 : decode cX7_tells 14 = .ok (.aload 4, 2) := by decide +kernel
theorem dX7_tells_16 : decode cX7_tells 16 = .ok (.ifnull 18, 3) := by decide +kernel
theorem dX7_tells_19 : decode cX7_tells 19 = .ok (.aload 5, 2) := by decide +kernel
theorem dX7_tells_21 : decode cX7_tells 21 = .ok (.ifnull 13, 3) := by decide +kernel
theorem dX7_tells_24 : decode cX7_tells 24 = .ok (.iload_n 3, 1) := by decide +kernel
theorem dX7_tells_25 : decode cX7_tells 25 = .ok (.ifCond .lt 9, 3) := by decide +kernel
theorem dX7_tells_28 : decode cX7_tells 28 = .ok (.iload_n 3, 1) := by decide +kernel
theorem dX7_tells_29 : decode cX7_tells 29 = .ok (.bipush 7, 2) := by decide +kernel
theorem dX7_tells_31 : decode cX7_tells 31 = .ok (.if_icmp .le 6, 3) := by decide +kernel
theorem dX7_tells_34 : decode cX7_tells 34 = .ok (.bipush (-2), 2) := by decide +kernel
theorem dX7_tells_36 : decode cX7_tells 36 = .ok (.ireturn, 1) := by decide +kernel
theorem dX7_tells_37 : decode cX7_tells 37 = .ok (.aload 4, 2) := by decide +kernel
theorem dX7_tells_39 : decode cX7_tells 39 = .ok (.invokevirtual 196, 3) := by decide +kernel
theorem dX7_tells_42 : decode cX7_tells 42 = .ok (.ifCond .eq 6, 3) := by decide +kernel
theorem dX7_tells_45 : decode cX7_tells 45 = .ok (.bipush (-11), 2) := by decide +kernel
theorem dX7_tells_47 : decode cX7_tells 47 = .ok (.ireturn, 1) := by decide +kernel
theorem dX7_tells_48 : decode cX7_tells 48 = .ok (.aload 4, 2) := by decide +kernel
theorem dX7_tells_50 : decode cX7_tells 50 = .ok (.getfield 228, 3) := by decide +kernel
theorem dX7_tells_53 : decode cX7_tells 53 = .ok (.bipush 12, 2) := by decide +kernel
theorem dX7_tells_55 : decode cX7_tells 55 = .ok (.if_icmp .le 6, 3) := by decide +kernel
theorem dX7_tells_58 : decode cX7_tells 58 = .ok (.bipush (-2), 2) := by decide +kernel
theorem dX7_tells_60 : decode cX7_tells 60 = .ok (.ireturn, 1) := by decide +kernel
theorem dX7_tells_61 : decode cX7_tells 61 = .ok (.iload_n 3, 1) := by decide +kernel
theorem dX7_tells_62 : decode cX7_tells 62 = .ok (.tableswitch 99 0 6 #[42, 50, 58, 66, 74, 82, 90], 42) := by decide +kernel
theorem dX7_tells_104 : decode cX7_tells 104 = .ok (.aload 4, 2) := by decide +kernel
theorem dX7_tells_106 : decode cX7_tells 106 = .ok (.aload 5, 2) := by decide +kernel
theorem dX7_tells_108 : decode cX7_tells 108 = .ok (.invokestatic 231, 3) := by decide +kernel
theorem dX7_tells_111 : decode cX7_tells 111 = .ok (.ireturn, 1) := by decide +kernel
theorem dX7_tells_112 : decode cX7_tells 112 = .ok (.aload 4, 2) := by decide +kernel
theorem dX7_tells_114 : decode cX7_tells 114 = .ok (.aload 5, 2) := by decide +kernel
theorem dX7_tells_116 : decode cX7_tells 116 = .ok (.invokestatic 235, 3) := by decide +kernel
theorem dX7_tells_119 : decode cX7_tells 119 = .ok (.ireturn, 1) := by decide +kernel
theorem dX7_tells_120 : decode cX7_tells 120 = .ok (.aload 4, 2) := by decide +kernel
theorem dX7_tells_122 : decode cX7_tells 122 = .ok (.aload 5, 2) := by decide +kernel
theorem dX7_tells_124 : decode cX7_tells 124 = .ok (.invokestatic 238, 3) := by decide +kernel
theorem dX7_tells_127 : decode cX7_tells 127 = .ok (.ireturn, 1) := by decide +kernel
theorem dX7_tells_128 : decode cX7_tells 128 = .ok (.aload 4, 2) := by decide +kernel
theorem dX7_tells_130 : decode cX7_tells 130 = .ok (.aload 5, 2) := by decide +kernel
theorem dX7_tells_132 : decode cX7_tells 132 = .ok (.invokestatic 241, 3) := by decide +kernel
theorem dX7_tells_135 : decode cX7_tells 135 = .ok (.ireturn, 1) := by decide +kernel
theorem dX7_tells_136 : decode cX7_tells 136 = .ok (.aload 4, 2) := by decide +kernel
theorem dX7_tells_138 : decode cX7_tells 138 = .ok (.aload 5, 2) := by decide +kernel
theorem dX7_tells_140 : decode cX7_tells 140 = .ok (.invokestatic 244, 3) := by decide +kernel
theorem dX7_tells_143 : decode cX7_tells 143 = .ok (.ireturn, 1) := by decide +kernel
theorem dX7_tells_144 : decode cX7_tells 144 = .ok (.aload 4, 2) := by decide +kernel
theorem dX7_tells_146 : decode cX7_tells 146 = .ok (.aload 5, 2) := by decide +kernel
theorem dX7_tells_148 : decode cX7_tells 148 = .ok (.invokestatic 247, 3) := by decide +kernel
theorem dX7_tells_151 : decode cX7_tells 151 = .ok (.ireturn, 1) := by decide +kernel
theorem dX7_tells_152 : decode cX7_tells 152 = .ok (.aload_n 0, 1) := by decide +kernel
theorem dX7_tells_153 : decode cX7_tells 153 = .ok (.aload 4, 2) := by decide +kernel
theorem dX7_tells_155 : decode cX7_tells 155 = .ok (.aload 5, 2) := by decide +kernel
theorem dX7_tells_157 : decode cX7_tells 157 = .ok (.invokevirtual 250, 3) := by decide +kernel
theorem dX7_tells_160 : decode cX7_tells 160 = .ok (.ireturn, 1) := by decide +kernel
theorem dX7_tells_161 : decode cX7_tells 161 = .ok (.aload_n 0, 1) := by decide +kernel
theorem dX7_tells_162 : decode cX7_tells 162 = .ok (.aload 4, 2) := by decide +kernel
theorem dX7_tells_164 : decode cX7_tells 164 = .ok (.invokevirtual 253, 3) := by decide +kernel
theorem dX7_tells_167 : decode cX7_tells 167 = .ok (.ireturn, 1) := by decide +kernel
theorem dX7_film_0 : decode cX7_film 0 = .ok (.aload_n 0, 1) := by decide +kernel
theorem dX7_film_1 : decode cX7_film 1 = .ok (.iload_n 1, 1) := by decide +kernel
theorem dX7_film_2 : decode cX7_film 2 = .ok (.invokevirtual 147, 3) := by decide +kernel
theorem dX7_film_5 : decode cX7_film 5 = .ok (.astore_n 3, 1) := by decide +kernel
theorem dX7_film_6 : decode cX7_film 6 = .ok (.aload_n 0, 1) := by decide +kernel
theorem dX7_film_7 : decode cX7_film 7 = .ok (.iload_n 2, 1) := by decide +kernel
theorem dX7_film_8 : decode cX7_film 8 = .ok (.invokevirtual 108, 3) := by decide +kernel
theorem dX7_film_11 : decode cX7_film 11 = .ok (.astore 4, 2) := by decide +kernel
theorem dX7_film_13 : decode cX7_film 13 = .ok (.aload_n 3, 1) := by decide +kernel
theorem dX7_film_14 : decode cX7_film 14 = .ok (.ifnull 8, 3) := by decide +kernel
theorem dX7_film_17 : decode cX7_film 17 = .ok (.aload 4, 2) := by decide +kernel
theorem dX7_film_19 : decode cX7_film 19 = .ok (.ifnonnull 6, 3) := by decide +kernel
theorem dX7_film_22 : decode cX7_film 22 = .ok (.bipush (-2), 2) := by decide +kernel
theorem dX7_film_24 : decode cX7_film 24 = .ok (.ireturn, 1) := by decide +kernel
theorem dX7_film_25 : decode cX7_film 25 = .ok (.aload_n 3, 1) := by decide +kernel
theorem dX7_film_26 : decode cX7_film 26 = .ok (.iconst 0, 1) := by decide +kernel
theorem dX7_film_27 : decode cX7_film 27 = .ok (.bipush 12, 2) := by decide +kernel
theorem dX7_film_29 : decode cX7_film 29 = .ok (.invokevirtual 256, 3) := by decide +kernel
theorem dX7_film_32 : decode cX7_film 32 = .ok (.iconst 0, 1) := by decide +kernel
theorem dX7_film_33 : decode cX7_film 33 = .ok (.istore 5, 2) := by decide +kernel
theorem dX7_film_35 : decode cX7_film 35 = .ok (.iconst 0, 1) := by decide +kernel
theorem dX7_film_36 : decode cX7_film 36 = .ok (.istore 6, 2) := by decide +kernel
theorem dX7_film_38 : decode cX7_film 38 = .ok (.iload 6, 2) := by decide +kernel
theorem dX7_film_40 : decode cX7_film 40 = .ok (.bipush 12, 2) := by decide +kernel
theorem dX7_film_42 : decode cX7_film 42 = .ok (.if_icmp .ge 37, 3) := by decide +kernel
theorem dX7_film_45 : decode cX7_film 45 = .ok (.aload 4, 2) := by decide +kernel
theorem dX7_film_47 : decode cX7_film 47 = .ok (.iconst 1, 1) := by decide +kernel
theorem dX7_film_48 : decode cX7_film 48 = .ok (.iload 6, 2) := by decide +kernel
theorem dX7_film_50 : decode cX7_film 50 = .ok (.ishl, 1) := by decide +kernel
theorem dX7_film_51 : decode cX7_film 51 = .ok (.invokevirtual 118, 3) := by decide +kernel
theorem dX7_film_54 : decode cX7_film 54 = .ok (.istore 7, 2) := by decide +kernel
theorem dX7_film_56 : decode cX7_film 56 = .ok (.aload_n 3, 1) := by decide +kernel
theorem dX7_film_57 : decode cX7_film 57 = .ok (.iload 6, 2) := by decide +kernel
theorem dX7_film_59 : decode cX7_film 59 = .ok (.iload 7, 2) := by decide +kernel
theorem dX7_film_61 : decode cX7_film 61 = .ok (.invokevirtual 259, 3) := by decide +kernel
theorem dX7_film_64 : decode cX7_film 64 = .ok (.iload 7, 2) := by decide +kernel
theorem dX7_film_66 : decode cX7_film 66 = .ok (.iconst (-1), 1) := by decide +kernel
theorem dX7_film_67 : decode cX7_film 67 = .ok (.if_icmp .eq 6, 3) := by decide +kernel
theorem dX7_film_70 : decode cX7_film 70 = .ok (.iinc 5 1, 3) := by decide +kernel
theorem dX7_film_73 : decode cX7_film 73 = .ok (.iinc 6 1, 3) := by decide +kernel
theorem dX7_film_76 : decode cX7_film 76 = .ok (.goto (-38), 3) := by decide +kernel
theorem dX7_film_79 : decode cX7_film 79 = .ok (.iload 5, 2) := by decide +kernel
theorem dX7_film_81 : decode cX7_film 81 = .ok (.ireturn, 1) := by decide +kernel
theorem dX7_drawn_0 : decode cX7_drawn 0 = .ok (.aload_n 0, 1) := by decide +kernel
theorem dX7_drawn_1 : decode cX7_drawn 1 = .ok (.iload_n 2, 1) := by decide +kernel
theorem dX7_drawn_2 : decode cX7_drawn 2 = .ok (.invokevirtual 108, 3) := by decide +kernel
theorem dX7_drawn_5 : decode cX7_drawn 5 = .ok (.astore 4, 2) := by decide +kernel
theorem dX7_drawn_7 : decode cX7_drawn 7 = .ok (.aload 4, 2) := by decide +kernel
theorem dX7_drawn_9 : decode cX7_drawn 9 = .ok (.ifnull 13, 3) := by decide +kernel
theorem dX7_drawn_12 : decode cX7_drawn 12 = .ok (.iload_n 3, 1) := by decide +kernel
theorem dX7_drawn_13 : decode cX7_drawn 13 = .ok (.ifCond .lt 9, 3) := by decide +kernel
theorem dX7_drawn_16 : decode cX7_drawn 16 = .ok (.iload_n 3, 1) := by decide +kernel
theorem dX7_drawn_17 : decode cX7_drawn 17 = .ok (.bipush 40, 2) := by decide +kernel
theorem dX7_drawn_19 : decode cX7_drawn 19 = .ok (.if_icmp .le 6, 3) := by decide +kernel
theorem dX7_drawn_22 : decode cX7_drawn 22 = .ok (.bipush (-2), 2) := by decide +kernel
theorem dX7_drawn_24 : decode cX7_drawn 24 = .ok (.ireturn, 1) := by decide +kernel
theorem dX7_drawn_25 : decode cX7_drawn 25 = .ok (.aload 4, 2) := by decide +kernel
theorem dX7_drawn_27 : decode cX7_drawn 27 = .ok (.iload_n 1, 1) := by decide +kernel
