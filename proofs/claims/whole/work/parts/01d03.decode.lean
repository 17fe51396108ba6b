theorem dX7_drawn_28 : decode cX7_drawn 28 = .ok (.iload_n 3, 1) := by decide +kernel
theorem dX7_drawn_29 : decode cX7_drawn 29 = .ok (.invokestatic 262, 3) := by decide +kernel
theorem dX7_drawn_32 : decode cX7_drawn 32 = .ok (.ireturn, 1) := by decide +kernel
theorem dX7_chance_0 : decode cX7_chance 0 = .ok (.iload_n 2, 1) := by decide +kernel
theorem dX7_chance_1 : decode cX7_chance 1 = .ok (.iconst 1, 1) := by decide +kernel
theorem dX7_chance_2 : decode cX7_chance 2 = .ok (.if_icmp .lt 17, 3) := by decide +kernel
theorem dX7_chance_5 : decode cX7_chance 5 = .ok (.iload_n 2, 1) := by decide +kernel
theorem dX7_chance_6 : decode cX7_chance 6 = .ok (.bipush 20, 2) := by decide +kernel
theorem dX7_chance_8 : decode cX7_chance 8 = .ok (.if_icmp .gt 11, 3) := by decide +kernel
theorem dX7_chance_11 : decode cX7_chance 11 = .ok (.aload_n 0, 1) := by decide +kernel
theorem dX7_chance_12 : decode cX7_chance 12 = .ok (.iload_n 3, 1) := by decide +kernel
theorem dX7_chance_13 : decode cX7_chance 13 = .ok (.invokevirtual 88, 3) := by decide +kernel
theorem dX7_chance_16 : decode cX7_chance 16 = .ok (.ifnonnull 7, 3) := by decide +kernel
theorem dX7_chance_19 : decode cX7_chance 19 = .ok (.ldc2_w 221, 3) := by decide +kernel
theorem dX7_chance_22 : decode cX7_chance 22 = .ok (.lreturn, 1) := by decide +kernel
theorem dX7_chance_23 : decode cX7_chance 23 = .ok (.iload 4, 2) := by decide +kernel
theorem dX7_chance_25 : decode cX7_chance 25 = .ok (.ifCond .lt 21, 3) := by decide +kernel
theorem dX7_chance_28 : decode cX7_chance 28 = .ok (.iload 4, 2) := by decide +kernel
theorem dX7_chance_30 : decode cX7_chance 30 = .ok (.bipush 12, 2) := by decide +kernel
theorem dX7_chance_32 : decode cX7_chance 32 = .ok (.if_icmp .gt 14, 3) := by decide +kernel
theorem dX7_chance_35 : decode cX7_chance 35 = .ok (.iload 5, 2) := by decide +kernel
theorem dX7_chance_37 : decode cX7_chance 37 = .ok (.ifCond .lt 9, 3) := by decide +kernel
theorem dX7_chance_40 : decode cX7_chance 40 = .ok (.iload 5, 2) := by decide +kernel
theorem dX7_chance_42 : decode cX7_chance 42 = .ok (.iconst 1, 1) := by decide +kernel
theorem dX7_chance_43 : decode cX7_chance 43 = .ok (.if_icmp .le 7, 3) := by decide +kernel
theorem dX7_chance_46 : decode cX7_chance 46 = .ok (.ldc2_w 221, 3) := by decide +kernel
theorem dX7_chance_49 : decode cX7_chance 49 = .ok (.lreturn, 1) := by decide +kernel
theorem dX7_chance_50 : decode cX7_chance 50 = .ok (.iconst 0, 1) := by decide +kernel
theorem dX7_chance_51 : decode cX7_chance 51 = .ok (.istore 6, 2) := by decide +kernel
theorem dX7_chance_53 : decode cX7_chance 53 = .ok (.iconst 0, 1) := by decide +kernel
theorem dX7_chance_54 : decode cX7_chance 54 = .ok (.istore 7, 2) := by decide +kernel
theorem dX7_chance_56 : decode cX7_chance 56 = .ok (.iload 7, 2) := by decide +kernel
theorem dX7_chance_58 : decode cX7_chance 58 = .ok (.iload_n 2, 1) := by decide +kernel
theorem dX7_chance_59 : decode cX7_chance 59 = .ok (.if_icmp .ge 40, 3) := by decide +kernel
theorem dX7_chance_62 : decode cX7_chance 62 = .ok (.aload_n 0, 1) := by decide +kernel
theorem dX7_chance_63 : decode cX7_chance 63 = .ok (.iload_n 3, 1) := by decide +kernel
theorem dX7_chance_64 : decode cX7_chance 64 = .ok (.invokevirtual 108, 3) := by decide +kernel
theorem dX7_chance_67 : decode cX7_chance 67 = .ok (.astore 8, 2) := by decide +kernel
theorem dX7_chance_69 : decode cX7_chance 69 = .ok (.aload 8, 2) := by decide +kernel
theorem dX7_chance_71 : decode cX7_chance 71 = .ok (.ifnull 22, 3) := by decide +kernel
theorem dX7_chance_74 : decode cX7_chance 74 = .ok (.aload 8, 2) := by decide +kernel
theorem dX7_chance_76 : decode cX7_chance 76 = .ok (.iload_n 1, 1) := by decide +kernel
theorem dX7_chance_77 : decode cX7_chance 77 = .ok (.iload 7, 2) := by decide +kernel
theorem dX7_chance_79 : decode cX7_chance 79 = .ok (.iadd, 1) := by decide +kernel
theorem dX7_chance_80 : decode cX7_chance 80 = .ok (.bipush 6, 2) := by decide +kernel
theorem dX7_chance_82 : decode cX7_chance 82 = .ok (.invokestatic 262, 3) := by decide +kernel
theorem dX7_chance_85 : decode cX7_chance 85 = .ok (.iload 4, 2) := by decide +kernel
theorem dX7_chance_87 : decode cX7_chance 87 = .ok (.if_icmp .lt 6, 3) := by decide +kernel
theorem dX7_chance_90 : decode cX7_chance 90 = .ok (.iinc 6 1, 3) := by decide +kernel
theorem dX7_chance_93 : decode cX7_chance 93 = .ok (.iinc 7 1, 3) := by decide +kernel
theorem dX7_chance_96 : decode cX7_chance 96 = .ok (.goto (-40), 3) := by decide +kernel
theorem dX7_chance_99 : decode cX7_chance 99 = .ok (.iload 6, 2) := by decide +kernel
theorem dX7_chance_101 : decode cX7_chance 101 = .ok (.iload_n 2, 1) := by decide +kernel
theorem dX7_chance_102 : decode cX7_chance 102 = .ok (.iload 5, 2) := by decide +kernel
theorem dX7_chance_104 : decode cX7_chance 104 = .ok (.invokestatic 224, 3) := by decide +kernel
theorem dX7_chance_107 : decode cX7_chance 107 = .ok (.lreturn, 1) := by decide +kernel
theorem dX7_image_0 : decode cX7_image 0 = .ok (.aload_n 0, 1) := by decide +kernel
theorem dX7_image_1 : decode cX7_image 1 = .ok (.getfield 56, 3) := by decide +kernel
theorem dX7_image_4 : decode cX7_image 4 = .ok (.aload_n 0, 1) := by decide +kernel
theorem dX7_image_5 : decode cX7_image 5 = .ok (.getfield 9, 3) := by decide +kernel
theorem dX7_image_8 : decode cX7_image 8 = .ok (.aload_n 0, 1) := by decide +kernel
theorem dX7_image_9 : decode cX7_image 9 = .ok (.getfield 21, 3) := by decide +kernel
theorem dX7_image_12 : decode cX7_image 12 = .ok (.aload_n 0, 1) := by decide +kernel
theorem dX7_image_13 : decode cX7_image 13 = .ok (.getfield 99, 3) := by decide +kernel
theorem dX7_image_16 : decode cX7_image 16 = .ok (.invokevirtual 266, 3) := by decide +kernel
theorem dX7_image_19 : decode cX7_image 19 = .ok (.aload_n 0, 1) := by decide +kernel
theorem dX7_image_20 : decode cX7_image 20 = .ok (.getfield 56, 3) := by decide +kernel
theorem dX7_image_23 : decode cX7_image 23 = .ok (.aload_n 0, 1) := by decide +kernel
theorem dX7_image_24 : decode cX7_image 24 = .ok (.getfield 85, 3) := by decide +kernel
theorem dX7_image_27 : decode cX7_image 27 = .ok (.putfield 270, 3) := by decide +kernel
theorem dX7_image_30 : decode cX7_image 30 = .ok (.aload_n 0, 1) := by decide +kernel
theorem dX7_image_31 : decode cX7_image 31 = .ok (.getfield 56, 3) := by decide +kernel
theorem dX7_image_34 : decode cX7_image 34 = .ok (.aload_n 0, 1) := by decide +kernel
theorem dX7_image_35 : decode cX7_image 35 = .ok (.getfield 137, 3) := by decide +kernel
theorem dX7_image_38 : decode cX7_image 38 = .ok (.putfield 271, 3) := by decide +kernel
theorem dX7_image_41 : decode cX7_image 41 = .ok (.aload_n 0, 1) := by decide +kernel
theorem dX7_image_42 : decode cX7_image 42 = .ok (.getfield 99, 3) := by decide +kernel
theorem dX7_image_45 : decode cX7_image 45 = .ok (.ireturn, 1) := by decide +kernel
theorem dX7_back_0 : decode cX7_back 0 = .ok (.aload_n 0, 1) := by decide +kernel
theorem dX7_back_1 : decode cX7_back 1 = .ok (.getfield 56, 3) := by decide +kernel
theorem dX7_back_4 : decode cX7_back 4 = .ok (.getfield 272, 3) := by decide +kernel
theorem dX7_back_7 : decode cX7_back 7 = .ok (.iconst (-1), 1) := by decide +kernel
theorem dX7_back_8 : decode cX7_back 8 = .ok (.if_icmp .ne 6, 3) := by decide +kernel
theorem dX7_back_11 : decode cX7_back 11 = .ok (.bipush (-3), 2) := by decide +kernel
theorem dX7_back_13 : decode cX7_back 13 = .ok (.ireturn, 1) := by decide +kernel
theorem dX7_back_14 : decode cX7_back 14 = .ok (.aload_n 0, 1) := by decide +kernel
theorem dX7_back_15 : decode cX7_back 15 = .ok (.getfield 56, 3) := by decide +kernel
theorem dX7_back_18 : decode cX7_back 18 = .ok (.aload_n 0, 1) := by decide +kernel
theorem dX7_back_19 : decode cX7_back 19 = .ok (.getfield 9, 3) := by decide +kernel
theorem dX7_back_22 : decode cX7_back 22 = .ok (.aload_n 0, 1) := by decide +kernel
theorem dX7_back_23 : decode cX7_back 23 = .ok (.getfield 21, 3) := by decide +kernel
theorem dX7_back_26 : decode cX7_back 26 = .ok (.invokevirtual 273, 3) := by decide +kernel
theorem dX7_back_29 : decode cX7_back 29 = .ok (.aload_n 0, 1) := by decide +kernel
theorem dX7_back_30 : decode cX7_back 30 = .ok (.aload_n 0, 1) := by decide +kernel
theorem dX7_back_31 : decode cX7_back 31 = .ok (.getfield 56, 3) := by decide +kernel
theorem dX7_back_34 : decode cX7_back 34 = .ok (.getfield 270, 3) := by decide +kernel
theorem dX7_back_37 : decode cX7_back 37 = .ok (.putfield 85, 3) := by decide +kernel
theorem dX7_back_40 : decode cX7_back 40 = .ok (.aload_n 0, 1) := by decide +kernel
theorem dX7_back_41 : decode cX7_back 41 = .ok (.aload_n 0, 1) := by decide +kernel
theorem dX7_back_42 : decode cX7_back 42 = .ok (.getfield 56, 3) := by decide +kernel
theorem dX7_back_45 : decode cX7_back 45 = .ok (.getfield 271, 3) := by decide +kernel
theorem dX7_back_48 : decode cX7_back 48 = .ok (.putfield 137, 3) := by decide +kernel
theorem dX7_back_51 : decode cX7_back 51 = .ok (.aload_n 0, 1) := by decide +kernel
theorem dX7_back_52 : decode cX7_back 52 = .ok (.aload_n 0, 1) := by decide +kernel
theorem dX7_back_53 : decode cX7_back 53 = .ok (.getfield 56, 3) := by decide +kernel
theorem dX7_back_56 : decode cX7_back 56 = .ok (.getfield 272, 3) := by decide +kernel
theorem dX7_back_59 : decode cX7_back 59 = .ok (.putfield 99, 3) := by decide +kernel
theorem dX7_back_62 : decode cX7_back 62 = .ok (.aload_n 0, 1) := by decide +kernel
theorem dX7_back_63 : decode cX7_back 63 = .ok (.getfield 99, 3) := by decide +kernel
theorem dX7_back_66 : decode cX7_back 66 = .ok (.ireturn, 1) := by decide +kernel
theorem dX7_count_0 : decode cX7_count 0 = .ok (.iload_n 1, 1) := by decide +kernel
theorem dX7_count_1 : decode cX7_count 1 = .ok (.tableswitch 69 0 5 #[39, 44, 49, 54, 59, 64], 39) := by decide +kernel
theorem dX7_count_40 : decode cX7_count 40 = .ok (.aload_n 0, 1) := by decide +kernel
theorem dX7_count_41 : decode cX7_count 41 = .ok (.getfield 99, 3) := by decide +kernel
theorem dX7_count_44 : decode cX7_count 44 = .ok (.ireturn, 1) := by decide +kernel
theorem dX7_count_45 : decode cX7_count 45 = .ok (.aload_n 0, 1) := by decide +kernel
theorem dX7_count_46 : decode cX7_count 46 = .ok (.invokevirtual 218, 3) := by decide +kernel
theorem dX7_count_49 : decode cX7_count 49 = .ok (.ireturn, 1) := by decide +kernel
theorem dX7_count_50 : decode cX7_count 50 = .ok (.aload_n 0, 1) := by decide +kernel
theorem dX7_count_51 : decode cX7_count 51 = .ok (.getfield 85, 3) := by decide +kernel
theorem dX7_count_54 : decode cX7_count 54 = .ok (.ireturn, 1) := by decide +kernel
theorem dX7_count_55 : decode cX7_count 55 = .ok (.aload_n 0, 1) := by decide +kernel
theorem dX7_count_56 : decode cX7_count 56 = .ok (.getfield 60, 3) := by decide +kernel
theorem dX7_count_59 : decode cX7_count 59 = .ok (.ireturn, 1) := by decide +kernel
theorem dX7_count_60 : decode cX7_count 60 = .ok (.aload_n 0, 1) := by decide +kernel
theorem dX7_count_61 : decode cX7_count 61 = .ok (.getfield 130, 3) := by decide +kernel
theorem dX7_count_64 : decode cX7_count 64 = .ok (.ireturn, 1) := by decide +kernel
theorem dX7_count_65 : decode cX7_count 65 = .ok (.aload_n 0, 1) := by decide +kernel
theorem dX7_count_66 : decode cX7_count 66 = .ok (.getfield 137, 3) := by decide +kernel
theorem dX7_count_69 : decode cX7_count 69 = .ok (.ireturn, 1) := by decide +kernel
theorem dX7_count_70 : decode cX7_count 70 = .ok (.bipush (-2), 2) := by decide +kernel
theorem dX7_count_72 : decode cX7_count 72 = .ok (.ireturn, 1) := by decide +kernel
theorem dX7_sheet_0 : decode cX7_sheet 0 = .ok (.aload_n 0, 1) := by decide +kernel
theorem dX7_sheet_1 : decode cX7_sheet 1 = .ok (.iload_n 1, 1) := by decide +kernel
theorem dX7_sheet_2 : decode cX7_sheet 2 = .ok (.invokevirtual 147, 3) := by decide +kernel
theorem dX7_sheet_5 : decode cX7_sheet 5 = .ok (.astore 4, 2) := by decide +kernel
theorem dX7_sheet_7 : decode cX7_sheet 7 = .ok (.aload 4, 2) := by decide +kernel
theorem dX7_sheet_9 : decode cX7_sheet 9 = .ok (.ifnull 13, 3) := by decide +kernel
theorem dX7_sheet_12 : decode cX7_sheet 12 = .ok (.iload_n 2, 1) := by decide +kernel
theorem dX7_sheet_13 : decode cX7_sheet 13 = .ok (.iconst (-1), 1) := by decide +kernel
theorem dX7_sheet_14 : decode cX7_sheet 14 = .ok (.if_icmp .lt 8, 3) := by decide +kernel
theorem dX7_sheet_17 : decode cX7_sheet 17 = .ok (.iload_n 2, 1) := by decide +kernel
theorem dX7_sheet_18 : decode cX7_sheet 18 = .ok (.iconst 2, 1) := by decide +kernel
theorem dX7_sheet_19 : decode cX7_sheet 19 = .ok (.if_icmp .le 6, 3) := by decide +kernel
theorem dX7_sheet_22 : decode cX7_sheet 22 = .ok (.bipush (-2), 2) := by decide +kernel
theorem dX7_sheet_24 : decode cX7_sheet 24 = .ok (.ireturn, 1) := by decide +kernel
theorem dX7_sheet_25 : decode cX7_sheet 25 = .ok (.iload_n 2, 1) := by decide +kernel
theorem dX7_sheet_26 : decode cX7_sheet 26 = .ok (.iconst (-1), 1) := by decide +kernel
theorem dX7_sheet_27 : decode cX7_sheet 27 = .ok (.if_icmp .ne 12, 3) := by decide +kernel
theorem dX7_sheet_30 : decode cX7_sheet 30 = .ok (.aload 4, 2) := by decide +kernel
theorem dX7_sheet_32 : decode cX7_sheet 32 = .ok (.iconst (-1), 1) := by decide +kernel
theorem dX7_sheet_33 : decode cX7_sheet 33 = .ok (.iconst 0, 1) := by decide +kernel
theorem dX7_sheet_34 : decode cX7_sheet 34 = .ok (.invokevirtual 256, 3) := by decide +kernel
theorem dX7_sheet_37 : decode cX7_sheet 37 = .ok (.iconst 1, 1) := by decide +kernel
theorem dX7_sheet_38 : decode cX7_sheet 38 = .ok (.ireturn, 1) := by decide +kernel
theorem dX7_sheet_39 : decode cX7_sheet 39 = .ok (.iload_n 3, 1) := by decide +kernel
theorem dX7_sheet_40 : decode cX7_sheet 40 = .ok (.bipush 40, 2) := by decide +kernel
theorem dX7_sheet_42 : decode cX7_sheet 42 = .ok (.if_icmp .le 6, 3) := by decide +kernel
theorem dX7_sheet_45 : decode cX7_sheet 45 = .ok (.bipush (-2), 2) := by decide +kernel
theorem dX7_sheet_47 : decode cX7_sheet 47 = .ok (.ireturn, 1) := by decide +kernel
theorem dX7_sheet_48 : decode cX7_sheet 48 = .ok (.iload_n 3, 1) := by decide +kernel
theorem dX7_sheet_49 : decode cX7_sheet 49 = .ok (.ifCond .ge 6, 3) := by decide +kernel
theorem dX7_sheet_52 : decode cX7_sheet 52 = .ok (.bipush (-14), 2) := by decide +kernel
theorem dX7_sheet_54 : decode cX7_sheet 54 = .ok (.ireturn, 1) := by decide +kernel
theorem dX7_sheet_55 : decode cX7_sheet 55 = .ok (.aload 4, 2) := by decide +kernel
theorem dX7_sheet_57 : decode cX7_sheet 57 = .ok (.iload_n 2, 1) := by decide +kernel
theorem dX7_sheet_58 : decode cX7_sheet 58 = .ok (.iload_n 3, 1) := by decide +kernel
theorem dX7_sheet_59 : decode cX7_sheet 59 = .ok (.invokevirtual 256, 3) := by decide +kernel
theorem dX7_sheet_62 : decode cX7_sheet 62 = .ok (.iconst 1, 1) := by decide +kernel
theorem dX7_sheet_63 : decode cX7_sheet 63 = .ok (.ireturn, 1) := by decide +kernel
theorem dX7_cell_0 : decode cX7_cell 0 = .ok (.aload_n 0, 1) := by decide +kernel
theorem dX7_cell_1 : decode cX7_cell 1 = .ok (.iload_n 1, 1) := by decide +kernel
theorem dX7_cell_2 : decode cX7_cell 2 = .ok (.invokevirtual 147, 3) := by decide +kernel
theorem dX7_cell_5 : decode cX7_cell 5 = .ok (.astore 4, 2) := by decide +kernel
theorem dX7_cell_7 : decode cX7_cell 7 = .ok (.aload 4, 2) := by decide +kernel
theorem dX7_cell_9 : decode cX7_cell 9 = .ok (.ifnonnull 6, 3) := by decide +kernel
theorem dX7_cell_12 : decode cX7_cell 12 = .ok (.bipush (-2), 2) := by decide +kernel
theorem dX7_cell_14 : decode cX7_cell 14 = .ok (.ireturn, 1) := by decide +kernel
theorem dX7_cell_15 : decode cX7_cell 15 = .ok (.aload 4, 2) := by decide +kernel
theorem dX7_cell_17 : decode cX7_cell 17 = .ok (.invokevirtual 196, 3) := by decide +kernel
theorem dX7_cell_20 : decode cX7_cell 20 = .ok (.ifCond .eq 6, 3) := by decide +kernel
theorem dX7_cell_23 : decode cX7_cell 23 = .ok (.bipush (-11), 2) := by decide +kernel
theorem dX7_cell_25 : decode cX7_cell 25 = .ok (.ireturn, 1) := by decide +kernel
theorem dX7_cell_26 : decode cX7_cell 26 = .ok (.iload_n 2, 1) := by decide +kernel
theorem dX7_cell_27 : decode cX7_cell 27 = .ok (.ifCond .lt 12, 3) := by decide +kernel
theorem dX7_cell_30 : decode cX7_cell 30 = .ok (.iload_n 2, 1) := by decide +kernel
theorem dX7_cell_31 : decode cX7_cell 31 = .ok (.aload 4, 2) := by decide +kernel
theorem dX7_cell_33 : decode cX7_cell 33 = .ok (.getfield 228, 3) := by decide +kernel
theorem dX7_cell_36 : decode cX7_cell 36 = .ok (.if_icmp .lt 6, 3) := by decide +kernel
theorem dX7_cell_39 : decode cX7_cell 39 = .ok (.bipush (-12), 2) := by decide +kernel
theorem dX7_cell_41 : decode cX7_cell 41 = .ok (.ireturn, 1) := by decide +kernel
theorem dX7_cell_42 : decode cX7_cell 42 = .ok (.aload 4, 2) := by decide +kernel
theorem dX7_cell_44 : decode cX7_cell 44 = .ok (.iload_n 2, 1) := by decide +kernel
theorem dX7_cell_45 : decode cX7_cell 45 = .ok (.iload_n 3, 1) := by decide +kernel
theorem dX7_cell_46 : decode cX7_cell 46 = .ok (.invokevirtual 259, 3) := by decide +kernel
theorem dX7_cell_49 : decode cX7_cell 49 = .ok (.iconst 1, 1) := by decide +kernel
theorem dX7_cell_50 : decode cX7_cell 50 = .ok (.ireturn, 1) := by decide +kernel
theorem dX7_copy_0 : decode cX7_copy 0 = .ok (.aload_n 0, 1) := by decide +kernel
theorem dX7_copy_1 : decode cX7_copy 1 = .ok (.iload_n 1, 1) := by decide +kernel
theorem dX7_copy_2 : decode cX7_copy 2 = .ok (.invokevirtual 147, 3) := by decide +kernel
theorem dX7_copy_5 : decode cX7_copy 5 = .ok (.astore 6, 2) := by decide +kernel
theorem dX7_copy_7 : decode cX7_copy 7 = .ok (.aload_n 0, 1) := by decide +kernel
theorem dX7_copy_8 : decode cX7_copy 8 = .ok (.iload_n 3, 1) := by decide +kernel
theorem dX7_copy_9 : decode cX7_copy 9 = .ok (.invokevirtual 147, 3) := by decide +kernel
theorem dX7_copy_12 : decode cX7_copy 12 = .ok (.astore 7, 2) := by decide +kernel
theorem dX7_copy_14 : decode cX7_copy 14 = .ok (.aload 6, 2) := by decide +kernel
theorem dX7_copy_16 : decode cX7_copy 16 = .ok (.ifnull 8, 3) := by decide +kernel
theorem dX7_copy_19 : decode cX7_copy 19 = .ok (.aload 7, 2) := by decide +kernel
theorem dX7_copy_21 : decode cX7_copy 21 = .ok (.ifnonnull 6, 3) := by decide +kernel
theorem dX7_copy_24 : decode cX7_copy 24 = .ok (.bipush (-2), 2) := by decide +kernel
theorem dX7_copy_26 : decode cX7_copy 26 = .ok (.ireturn, 1) := by decide +kernel
theorem dX7_copy_27 : decode cX7_copy 27 = .ok (.aload 6, 2) := by decide +kernel
theorem dX7_copy_29 : decode cX7_copy 29 = .ok (.invokevirtual 196, 3) := by decide +kernel
theorem dX7_copy_32 : decode cX7_copy 32 = .ok (.ifCond .ne 11, 3) := by decide +kernel
theorem dX7_copy_35 : decode cX7_copy 35 = .ok (.aload 7, 2) := by decide +kernel
theorem dX7_copy_37 : decode cX7_copy 37 = .ok (.invokevirtual 196, 3) := by decide +kernel
theorem dX7_copy_40 : decode cX7_copy 40 = .ok (.ifCond .eq 6, 3) := by decide +kernel
theorem dX7_copy_43 : decode cX7_copy 43 = .ok (.bipush (-11), 2) := by decide +kernel
theorem dX7_copy_45 : decode cX7_copy 45 = .ok (.ireturn, 1) := by decide +kernel
theorem dX7_copy_46 : decode cX7_copy 46 = .ok (.aload 6, 2) := by decide +kernel
theorem dX7_copy_48 : decode cX7_copy 48 = .ok (.getfield 277, 3) := by decide +kernel
theorem dX7_copy_51 : decode cX7_copy 51 = .ok (.aload 7, 2) := by decide +kernel
theorem dX7_copy_53 : decode cX7_copy 53 = .ok (.getfield 277, 3) := by decide +kernel
theorem dX7_copy_56 : decode cX7_copy 56 = .ok (.if_icmp .eq 6, 3) := by decide +kernel
theorem dX7_copy_59 : decode cX7_copy 59 = .ok (.bipush (-13), 2) := by decide +kernel
theorem dX7_copy_61 : decode cX7_copy 61 = .ok (.ireturn, 1) := by decide +kernel
theorem dX7_copy_62 : decode cX7_copy 62 = .ok (.aload 6, 2) := by decide +kernel
theorem dX7_copy_64 : decode cX7_copy 64 = .ok (.iload_n 2, 1) := by decide +kernel
theorem dX7_copy_65 : decode cX7_copy 65 = .ok (.iload 5, 2) := by decide +kernel
theorem dX7_copy_67 : decode cX7_copy 67 = .ok (.invokevirtual 280, 3) := by decide +kernel
theorem dX7_copy_70 : decode cX7_copy 70 = .ok (.ifCond .eq 15, 3) := by decide +kernel
theorem dX7_copy_73 : decode cX7_copy 73 = .ok (.aload 7, 2) := by decide +kernel
theorem dX7_copy_75 : decode cX7_copy 75 = .ok (.iload 4, 2) := by decide +kernel
theorem dX7_copy_77 : decode cX7_copy 77 = .ok (.iload 5, 2) := by decide +kernel
theorem dX7_copy_79 : decode cX7_copy 79 = .ok (.invokevirtual 280, 3) := by decide +kernel
theorem dX7_copy_82 : decode cX7_copy 82 = .ok (.ifCond .ne 6, 3) := by decide +kernel
theorem dX7_copy_85 : decode cX7_copy 85 = .ok (.bipush (-12), 2) := by decide +kernel
theorem dX7_copy_87 : decode cX7_copy 87 = .ok (.ireturn, 1) := by decide +kernel
theorem dX7_copy_88 : decode cX7_copy 88 = .ok (.aload 6, 2) := by decide +kernel
theorem dX7_copy_90 : decode cX7_copy 90 = .ok (.getfield 284, 3) := by decide +kernel
theorem dX7_copy_93 : decode cX7_copy 93 = .ok (.iload_n 2, 1) := by decide +kernel
theorem dX7_copy_94 : decode cX7_copy 94 = .ok (.aload 7, 2) := by decide +kernel
theorem dX7_copy_96 : decode cX7_copy 96 = .ok (.getfield 284, 3) := by decide +kernel
theorem dX7_copy_99 : decode cX7_copy 99 = .ok (.iload 4, 2) := by decide +kernel
theorem dX7_copy_101 : decode cX7_copy 101 = .ok (.iload 5, 2) := by decide +kernel
theorem dX7_copy_103 : decode cX7_copy 103 = .ok (.invokestatic 287, 3) := by decide +kernel
theorem dX7_copy_106 : decode cX7_copy 106 = .ok (.iload 5, 2) := by decide +kernel
theorem dX7_copy_108 : decode cX7_copy 108 = .ok (.ireturn, 1) := by decide +kernel
theorem dX7_askers_0 : decode cX7_askers 0 = .ok (.aload_n 0, 1) := by decide +kernel
theorem dX7_askers_1 : decode cX7_askers 1 = .ok (.iload_n 1, 1) := by decide +kernel
theorem dX7_askers_2 : decode cX7_askers 2 = .ok (.invokevirtual 147, 3) := by decide +kernel
theorem dX7_askers_5 : decode cX7_askers 5 = .ok (.astore 5, 2) := by decide +kernel
theorem dX7_askers_7 : decode cX7_askers 7 = .ok (.aload 5, 2) := by decide +kernel
theorem dX7_askers_9 : decode cX7_askers 9 = .ok (.ifnull 23, 3) := by decide +kernel
theorem dX7_askers_12 : decode cX7_askers 12 = .ok (.iload_n 2, 1) := by decide +kernel
theorem dX7_askers_13 : decode cX7_askers 13 = .ok (.ifCond .lt 19, 3) := by decide +kernel
theorem dX7_askers_16 : decode cX7_askers 16 = .ok (.iload_n 2, 1) := by decide +kernel
theorem dX7_askers_17 : decode cX7_askers 17 = .ok (.iconst 2, 1) := by decide +kernel
theorem dX7_askers_18 : decode cX7_askers 18 = .ok (.if_icmp .gt 14, 3) := by decide +kernel
theorem dX7_askers_21 : decode cX7_askers 21 = .ok (.iload 4, 2) := by decide +kernel
theorem dX7_askers_23 : decode cX7_askers 23 = .ok (.ifCond .lt 9, 3) := by decide +kernel
theorem dX7_askers_26 : decode cX7_askers 26 = .ok (.iload 4, 2) := by decide +kernel
theorem dX7_askers_28 : decode cX7_askers 28 = .ok (.iconst 5, 1) := by decide +kernel
theorem dX7_askers_29 : decode cX7_askers 29 = .ok (.if_icmp .le 6, 3) := by decide +kernel
theorem dX7_askers_32 : decode cX7_askers 32 = .ok (.bipush (-2), 2) := by decide +kernel
theorem dX7_askers_34 : decode cX7_askers 34 = .ok (.ireturn, 1) := by decide +kernel
theorem dX7_askers_35 : decode cX7_askers 35 = .ok (.aload 5, 2) := by decide +kernel
theorem dX7_askers_37 : decode cX7_askers 37 = .ok (.invokevirtual 196, 3) := by decide +kernel
theorem dX7_askers_40 : decode cX7_askers 40 = .ok (.ifCond .ne 15, 3) := by decide +kernel
theorem dX7_askers_43 : decode cX7_askers 43 = .ok (.aload 5, 2) := by decide +kernel
theorem dX7_askers_45 : decode cX7_askers 45 = .ok (.getfield 277, 3) := by decide +kernel
theorem dX7_askers_48 : decode cX7_askers 48 = .ok (.iload_n 2, 1) := by decide +kernel
theorem dX7_askers_49 : decode cX7_askers 49 = .ok (.if_icmp .eq 6, 3) := by decide +kernel
theorem dX7_askers_52 : decode cX7_askers 52 = .ok (.bipush (-13), 2) := by decide +kernel
theorem dX7_askers_54 : decode cX7_askers 54 = .ok (.ireturn, 1) := by decide +kernel
theorem dX7_askers_55 : decode cX7_askers 55 = .ok (.aload 5, 2) := by decide +kernel
theorem dX7_askers_57 : decode cX7_askers 57 = .ok (.invokevirtual 196, 3) := by decide +kernel
theorem dX7_askers_60 : decode cX7_askers 60 = .ok (.ifCond .eq 6, 3) := by decide +kernel
theorem dX7_askers_63 : decode cX7_askers 63 = .ok (.bipush (-11), 2) := by decide +kernel
theorem dX7_askers_65 : decode cX7_askers 65 = .ok (.ireturn, 1) := by decide +kernel
theorem dX7_askers_66 : decode cX7_askers 66 = .ok (.iconst 0, 1) := by decide +kernel
theorem dX7_askers_67 : decode cX7_askers 67 = .ok (.istore 6, 2) := by decide +kernel
theorem dX7_askers_69 : decode cX7_askers 69 = .ok (.iload_n 3, 1) := by decide +kernel
theorem dX7_askers_70 : decode cX7_askers 70 = .ok (.istore 7, 2) := by decide +kernel
theorem dX7_askers_72 : decode cX7_askers 72 = .ok (.iconst 0, 1) := by decide +kernel
theorem dX7_askers_73 : decode cX7_askers 73 = .ok (.istore 8, 2) := by decide +kernel
theorem dX7_askers_75 : decode cX7_askers 75 = .ok (.iload 8, 2) := by decide +kernel
theorem dX7_askers_77 : decode cX7_askers 77 = .ok (.iload 4, 2) := by decide +kernel
theorem dX7_askers_79 : decode cX7_askers 79 = .ok (.if_icmp .ge 52, 3) := by decide +kernel
theorem dX7_askers_82 : decode cX7_askers 82 = .ok (.aload 5, 2) := by decide +kernel
theorem dX7_askers_84 : decode cX7_askers 84 = .ok (.iload 7, 2) := by decide +kernel
theorem dX7_askers_86 : decode cX7_askers 86 = .ok (.iconst 2, 1) := by decide +kernel
theorem dX7_askers_87 : decode cX7_askers 87 = .ok (.invokevirtual 280, 3) := by decide +kernel
theorem dX7_askers_90 : decode cX7_askers 90 = .ok (.ifCond .ne 6, 3) := by decide +kernel
theorem dX7_askers_93 : decode cX7_askers 93 = .ok (.bipush (-12), 2) := by decide +kernel
theorem dX7_askers_95 : decode cX7_askers 95 = .ok (.ireturn, 1) := by decide +kernel
theorem dX7_askers_96 : decode cX7_askers 96 = .ok (.aload_n 0, 1) := by decide +kernel
theorem dX7_askers_97 : decode cX7_askers 97 = .ok (.aload 5, 2) := by decide +kernel
theorem dX7_askers_99 : decode cX7_askers 99 = .ok (.iload 7, 2) := by decide +kernel
theorem dX7_askers_101 : decode cX7_askers 101 = .ok (.invokevirtual 293, 3) := by decide +kernel
theorem dX7_askers_104 : decode cX7_askers 104 = .ok (.aload 5, 2) := by decide +kernel
theorem dX7_askers_106 : decode cX7_askers 106 = .ok (.iload 7, 2) := by decide +kernel
theorem dX7_askers_108 : decode cX7_askers 108 = .ok (.iconst 1, 1) := by decide +kernel
theorem dX7_askers_109 : decode cX7_askers 109 = .ok (.iadd, 1) := by decide +kernel
theorem dX7_askers_110 : decode cX7_askers 110 = .ok (.invokevirtual 293, 3) := by decide +kernel
theorem dX7_askers_113 : decode cX7_askers 113 = .ok (.invokevirtual 296, 3) := by decide +kernel
theorem dX7_askers_116 : decode cX7_askers 116 = .ok (.ifCond .lt 6, 3) := by decide +kernel
theorem dX7_askers_119 : decode cX7_askers 119 = .ok (.iinc 6 1, 3) := by decide +kernel
theorem dX7_askers_122 : decode cX7_askers 122 = .ok (.iinc 7 2, 3) := by decide +kernel
theorem dX7_askers_125 : decode cX7_askers 125 = .ok (.iinc 8 1, 3) := by decide +kernel
theorem dX7_askers_128 : decode cX7_askers 128 = .ok (.goto (-53), 3) := by decide +kernel
theorem dX7_askers_131 : decode cX7_askers 131 = .ok (.iload 6, 2) := by decide +kernel
theorem dX7_askers_133 : decode cX7_askers 133 = .ok (.ireturn, 1) := by decide +kernel
theorem dX7_taken_0 : decode cX7_taken 0 = .ok (.iload_n 2, 1) := by decide +kernel
theorem dX7_taken_1 : decode cX7_taken 1 = .ok (.ifCond .lt 9, 3) := by decide +kernel
theorem dX7_taken_4 : decode cX7_taken 4 = .ok (.iload_n 2, 1) := by decide +kernel
theorem dX7_taken_5 : decode cX7_taken 5 = .ok (.bipush 6, 2) := by decide +kernel
theorem dX7_taken_7 : decode cX7_taken 7 = .ok (.if_icmp .lt 6, 3) := by decide +kernel
theorem dX7_taken_10 : decode cX7_taken 10 = .ok (.bipush (-2), 2) := by decide +kernel
theorem dX7_taken_12 : decode cX7_taken 12 = .ok (.ireturn, 1) := by decide +kernel
theorem dX7_taken_13 : decode cX7_taken 13 = .ok (.aload_n 0, 1) := by decide +kernel
theorem dX7_taken_14 : decode cX7_taken 14 = .ok (.iload_n 1, 1) := by decide +kernel
theorem dX7_taken_15 : decode cX7_taken 15 = .ok (.invokevirtual 88, 3) := by decide +kernel
theorem dX7_taken_18 : decode cX7_taken 18 = .ok (.astore_n 3, 1) := by decide +kernel
theorem dX7_taken_19 : decode cX7_taken 19 = .ok (.aload_n 3, 1) := by decide +kernel
theorem dX7_taken_20 : decode cX7_taken 20 = .ok (.ifnonnull 6, 3) := by decide +kernel
theorem dX7_taken_23 : decode cX7_taken 23 = .ok (.bipush (-11), 2) := by decide +kernel
theorem dX7_taken_25 : decode cX7_taken 25 = .ok (.ireturn, 1) := by decide +kernel
theorem dX7_taken_26 : decode cX7_taken 26 = .ok (.aload_n 3, 1) := by decide +kernel
theorem dX7_taken_27 : decode cX7_taken 27 = .ok (.getfield 300, 3) := by decide +kernel
theorem dX7_taken_30 : decode cX7_taken 30 = .ok (.istore 4, 2) := by decide +kernel
theorem dX7_taken_32 : decode cX7_taken 32 = .ok (.iconst 0, 1) := by decide +kernel
theorem dX7_taken_33 : decode cX7_taken 33 = .ok (.istore 5, 2) := by decide +kernel
theorem dX7_taken_35 : decode cX7_taken 35 = .ok (.iload 5, 2) := by decide +kernel
theorem dX7_taken_37 : decode cX7_taken 37 = .ok (.bipush 6, 2) := by decide +kernel
theorem dX7_taken_39 : decode cX7_taken 39 = .ok (.if_icmp .ge 42, 3) := by decide +kernel
theorem dX7_taken_42 : decode cX7_taken 42 = .ok (.iload 4, 2) := by decide +kernel
theorem dX7_taken_44 : decode cX7_taken 44 = .ok (.ifCond .lt 37, 3) := by decide +kernel
theorem dX7_taken_47 : decode cX7_taken 47 = .ok (.iload 4, 2) := by decide +kernel
theorem dX7_taken_49 : decode cX7_taken 49 = .ok (.getstatic 303, 3) := by decide +kernel
theorem dX7_taken_52 : decode cX7_taken 52 = .ok (.arraylength, 1) := by decide +kernel
theorem dX7_taken_53 : decode cX7_taken 53 = .ok (.if_icmp .ge 28, 3) := by decide +kernel
theorem dX7_taken_56 : decode cX7_taken 56 = .ok (.iload 4, 2) := by decide +kernel
theorem dX7_taken_58 : decode cX7_taken 58 = .ok (.iload_n 2, 1) := by decide +kernel
theorem dX7_taken_59 : decode cX7_taken 59 = .ok (.if_icmp .ne 8, 3) := by decide +kernel
theorem dX7_taken_62 : decode cX7_taken 62 = .ok (.aload_n 3, 1) := by decide +kernel
theorem dX7_taken_63 : decode cX7_taken 63 = .ok (.getfield 306, 3) := by decide +kernel
theorem dX7_taken_66 : decode cX7_taken 66 = .ok (.ireturn, 1) := by decide +kernel
theorem dX7_taken_67 : decode cX7_taken 67 = .ok (.getstatic 303, 3) := by decide +kernel
theorem dX7_taken_70 : decode cX7_taken 70 = .ok (.iload 4, 2) := by decide +kernel
theorem dX7_taken_72 : decode cX7_taken 72 = .ok (.iaload, 1) := by decide +kernel
theorem dX7_taken_73 : decode cX7_taken 73 = .ok (.istore 4, 2) := by decide +kernel
theorem dX7_taken_75 : decode cX7_taken 75 = .ok (.iinc 5 1, 3) := by decide +kernel
theorem dX7_taken_78 : decode cX7_taken 78 = .ok (.goto (-43), 3) := by decide +kernel
theorem dX7_taken_81 : decode cX7_taken 81 = .ok (.bipush (-13), 2) := by decide +kernel
theorem dX7_taken_83 : decode cX7_taken 83 = .ok (.ireturn, 1) := by decide +kernel
theorem dX7_isThing_0 : decode cX7_isThing 0 = .ok (.iload_n 0, 1) := by decide +kernel
theorem dX7_isThing_1 : decode cX7_isThing 1 = .ok (.ifCond .lt 13, 3) := by decide +kernel
theorem dX7_isThing_4 : decode cX7_isThing 4 = .ok (.iload_n 0, 1) := by decide +kernel
theorem dX7_isThing_5 : decode cX7_isThing 5 = .ok (.bipush 12, 2) := by decide +kernel
theorem dX7_isThing_7 : decode cX7_isThing 7 = .ok (.if_icmp .ge 7, 3) := by decide +kernel
theorem dX7_isThing_10 : decode cX7_isThing 10 = .ok (.iconst 1, 1) := by decide +kernel
theorem dX7_isThing_11 : decode cX7_isThing 11 = .ok (.goto 4, 3) := by decide +kernel
theorem dX7_isThing_14 : decode cX7_isThing 14 = .ok (.iconst 0, 1) := by decide +kernel
theorem dX7_isThing_15 : decode cX7_isThing 15 = .ok (.ireturn, 1) := by decide +kernel
theorem dX7_isAsked_0 : decode cX7_isAsked 0 = .ok (.iload_n 0, 1) := by decide +kernel
theorem dX7_isAsked_1 : decode cX7_isAsked 1 = .ok (.iconst 1, 1) := by decide +kernel
theorem dX7_isAsked_2 : decode cX7_isAsked 2 = .ok (.if_icmp .lt 14, 3) := by decide +kernel
theorem dX7_isAsked_5 : decode cX7_isAsked 5 = .ok (.iload_n 0, 1) := by decide +kernel
theorem dX7_isAsked_6 : decode cX7_isAsked 6 = .ok (.sipush 4095, 3) := by decide +kernel
theorem dX7_isAsked_9 : decode cX7_isAsked 9 = .ok (.if_icmp .gt 7, 3) := by decide +kernel
theorem dX7_isAsked_12 : decode cX7_isAsked 12 = .ok (.iconst 1, 1) := by decide +kernel
theorem dX7_isAsked_13 : decode cX7_isAsked 13 = .ok (.goto 4, 3) := by decide +kernel
theorem dX7_isAsked_16 : decode cX7_isAsked 16 = .ok (.iconst 0, 1) := by decide +kernel
theorem dX7_isAsked_17 : decode cX7_isAsked 17 = .ok (.ireturn, 1) := by decide +kernel
theorem dX7_mostOf_0 : decode cX7_mostOf 0 = .ok (.iload_n 0, 1) := by decide +kernel
theorem dX7_mostOf_1 : decode cX7_mostOf 1 = .ok (.tableswitch 46 0 4 #[35, 39, 46, 46, 42], 35) := by decide +kernel
theorem dX7_mostOf_36 : decode cX7_mostOf 36 = .ok (.sipush 999, 3) := by decide +kernel
theorem dX7_mostOf_39 : decode cX7_mostOf 39 = .ok (.ireturn, 1) := by decide +kernel
theorem dX7_mostOf_40 : decode cX7_mostOf 40 = .ok (.bipush 9, 2) := by decide +kernel
theorem dX7_mostOf_42 : decode cX7_mostOf 42 = .ok (.ireturn, 1) := by decide +kernel
theorem dX7_mostOf_43 : decode cX7_mostOf 43 = .ok (.sipush 9999, 3) := by decide +kernel
theorem dX7_mostOf_46 : decode cX7_mostOf 46 = .ok (.ireturn, 1) := by decide +kernel
theorem dX7_mostOf_47 : decode cX7_mostOf 47 = .ok (.sipush 4095, 3) := by decide +kernel
theorem dX7_mostOf_50 : decode cX7_mostOf 50 = .ok (.ireturn, 1) := by decide +kernel
theorem dX7_likesOf_0 : decode cX7_likesOf 0 = .ok (.iload_n 1, 1) := by decide +kernel
theorem dX7_likesOf_1 : decode cX7_likesOf 1 = .ok (.ifCond .lt 21, 3) := by decide +kernel
theorem dX7_likesOf_4 : decode cX7_likesOf 4 = .ok (.iload_n 1, 1) := by decide +kernel
theorem dX7_likesOf_5 : decode cX7_likesOf 5 = .ok (.aload_n 0, 1) := by decide +kernel
theorem dX7_likesOf_6 : decode cX7_likesOf 6 = .ok (.getfield 9, 3) := by decide +kernel
theorem dX7_likesOf_9 : decode cX7_likesOf 9 = .ok (.arraylength, 1) := by decide +kernel
theorem dX7_likesOf_10 : decode cX7_likesOf 10 = .ok (.if_icmp .ge 12, 3) := by decide +kernel
theorem dX7_likesOf_13 : decode cX7_likesOf 13 = .ok (.aload_n 0, 1) := by decide +kernel
theorem dX7_likesOf_14 : decode cX7_likesOf 14 = .ok (.getfield 9, 3) := by decide +kernel
theorem dX7_likesOf_17 : decode cX7_likesOf 17 = .ok (.iload_n 1, 1) := by decide +kernel
theorem dX7_likesOf_18 : decode cX7_likesOf 18 = .ok (.iaload, 1) := by decide +kernel
theorem dX7_likesOf_19 : decode cX7_likesOf 19 = .ok (.goto 4, 3) := by decide +kernel
theorem dX7_likesOf_22 : decode cX7_likesOf 22 = .ok (.iconst 0, 1) := by decide +kernel
theorem dX7_likesOf_23 : decode cX7_likesOf 23 = .ok (.ireturn, 1) := by decide +kernel
theorem dX7_seat_0 : decode cX7_seat 0 = .ok (.iload_n 1, 1) := by decide +kernel
theorem dX7_seat_1 : decode cX7_seat 1 = .ok (.ifCond .lt 29, 3) := by decide +kernel
theorem dX7_seat_4 : decode cX7_seat 4 = .ok (.iload_n 1, 1) := by decide +kernel
theorem dX7_seat_5 : decode cX7_seat 5 = .ok (.aload_n 0, 1) := by decide +kernel
theorem dX7_seat_6 : decode cX7_seat 6 = .ok (.getfield 99, 3) := by decide +kernel
theorem dX7_seat_9 : decode cX7_seat 9 = .ok (.if_icmp .ge 21, 3) := by decide +kernel
theorem dX7_seat_12 : decode cX7_seat 12 = .ok (.iload_n 1, 1) := by decide +kernel
theorem dX7_seat_13 : decode cX7_seat 13 = .ok (.aload_n 0, 1) := by decide +kernel
theorem dX7_seat_14 : decode cX7_seat 14 = .ok (.getfield 21, 3) := by decide +kernel
theorem dX7_seat_17 : decode cX7_seat 17 = .ok (.arraylength, 1) := by decide +kernel
theorem dX7_seat_18 : decode cX7_seat 18 = .ok (.if_icmp .ge 12, 3) := by decide +kernel
theorem dX7_seat_21 : decode cX7_seat 21 = .ok (.aload_n 0, 1) := by decide +kernel
theorem dX7_seat_22 : decode cX7_seat 22 = .ok (.getfield 21, 3) := by decide +kernel
theorem dX7_seat_25 : decode cX7_seat 25 = .ok (.iload_n 1, 1) := by decide +kernel
theorem dX7_seat_26 : decode cX7_seat 26 = .ok (.aaload, 1) := by decide +kernel
theorem dX7_seat_27 : decode cX7_seat 27 = .ok (.goto 4, 3) := by decide +kernel
theorem dX7_seat_30 : decode cX7_seat 30 = .ok (.aconst_null, 1) := by decide +kernel
theorem dX7_seat_31 : decode cX7_seat 31 = .ok (.areturn, 1) := by decide +kernel
theorem dX7_sheetAt_0 : decode cX7_sheetAt 0 = .ok (.iload_n 1, 1) := by decide +kernel
theorem dX7_sheetAt_1 : decode cX7_sheetAt 1 = .ok (.ifCond .lt 21, 3) := by decide +kernel
theorem dX7_sheetAt_4 : decode cX7_sheetAt 4 = .ok (.iload_n 1, 1) := by decide +kernel
theorem dX7_sheetAt_5 : decode cX7_sheetAt 5 = .ok (.aload_n 0, 1) := by decide +kernel
theorem dX7_sheetAt_6 : decode cX7_sheetAt 6 = .ok (.getfield 33, 3) := by decide +kernel
theorem dX7_sheetAt_9 : decode cX7_sheetAt 9 = .ok (.arraylength, 1) := by decide +kernel
theorem dX7_sheetAt_10 : decode cX7_sheetAt 10 = .ok (.if_icmp .ge 12, 3) := by decide +kernel
theorem dX7_sheetAt_13 : decode cX7_sheetAt 13 = .ok (.aload_n 0, 1) := by decide +kernel
theorem dX7_sheetAt_14 : decode cX7_sheetAt 14 = .ok (.getfield 33, 3) := by decide +kernel
theorem dX7_sheetAt_17 : decode cX7_sheetAt 17 = .ok (.iload_n 1, 1) := by decide +kernel
theorem dX7_sheetAt_18 : decode cX7_sheetAt 18 = .ok (.aaload, 1) := by decide +kernel
theorem dX7_sheetAt_19 : decode cX7_sheetAt 19 = .ok (.goto 4, 3) := by decide +kernel
theorem dX7_sheetAt_22 : decode cX7_sheetAt 22 = .ok (.aconst_null, 1) := by decide +kernel
theorem dX7_sheetAt_23 : decode cX7_sheetAt 23 = .ok (.areturn, 1) := by decide +kernel
theorem dX7_textAt_0 : decode cX7_textAt 0 = .ok (.iload_n 1, 1) := by decide +kernel
theorem dX7_textAt_1 : decode cX7_textAt 1 = .ok (.ifCond .lt 21, 3) := by decide +kernel
theorem dX7_textAt_4 : decode cX7_textAt 4 = .ok (.iload_n 1, 1) := by decide +kernel
theorem dX7_textAt_5 : decode cX7_textAt 5 = .ok (.aload_n 0, 1) := by decide +kernel
theorem dX7_textAt_6 : decode cX7_textAt 6 = .ok (.getfield 27, 3) := by decide +kernel
theorem dX7_textAt_9 : decode cX7_textAt 9 = .ok (.arraylength, 1) := by decide +kernel
theorem dX7_textAt_10 : decode cX7_textAt 10 = .ok (.if_icmp .ge 12, 3) := by decide +kernel
theorem dX7_textAt_13 : decode cX7_textAt 13 = .ok (.aload_n 0, 1) := by decide +kernel
theorem dX7_textAt_14 : decode cX7_textAt 14 = .ok (.getfield 27, 3) := by decide +kernel
theorem dX7_textAt_17 : decode cX7_textAt 17 = .ok (.iload_n 1, 1) := by decide +kernel
theorem dX7_textAt_18 : decode cX7_textAt 18 = .ok (.aaload, 1) := by decide +kernel
theorem dX7_textAt_19 : decode cX7_textAt 19 = .ok (.goto 4, 3) := by decide +kernel
theorem dX7_textAt_22 : decode cX7_textAt 22 = .ok (.aconst_null, 1) := by decide +kernel
theorem dX7_textAt_23 : decode cX7_textAt 23 = .ok (.areturn, 1) := by decide +kernel
theorem dX7_visitOf_0 : decode cX7_visitOf 0 = .ok (.aload_n 0, 1) := by decide +kernel
theorem dX7_visitOf_1 : decode cX7_visitOf 1 = .ok (.iload_n 1, 1) := by decide +kernel
theorem dX7_visitOf_2 : decode cX7_visitOf 2 = .ok (.invokevirtual 88, 3) := by decide +kernel
theorem dX7_visitOf_5 : decode cX7_visitOf 5 = .ok (.astore_n 2, 1) := by decide +kernel
theorem dX7_visitOf_6 : decode cX7_visitOf 6 = .ok (.aload_n 2, 1) := by decide +kernel
theorem dX7_visitOf_7 : decode cX7_visitOf 7 = .ok (.ifnonnull 5, 3) := by decide +kernel
theorem dX7_visitOf_10 : decode cX7_visitOf 10 = .ok (.aconst_null, 1) := by decide +kernel
theorem dX7_visitOf_11 : decode cX7_visitOf 11 = .ok (.areturn, 1) := by decide +kernel
theorem dX7_visitOf_12 : decode cX7_visitOf 12 = .ok (.iload_n 1, 1) := by decide +kernel
theorem dX7_visitOf_13 : decode cX7_visitOf 13 = .ok (.iconst 1, 1) := by decide +kernel
theorem dX7_visitOf_14 : decode cX7_visitOf 14 = .ok (.iadd, 1) := by decide +kernel
theorem dX7_visitOf_15 : decode cX7_visitOf 15 = .ok (.aload_n 0, 1) := by decide +kernel
theorem dX7_visitOf_16 : decode cX7_visitOf 16 = .ok (.getfield 99, 3) := by decide +kernel
theorem dX7_visitOf_19 : decode cX7_visitOf 19 = .ok (.if_icmp .ge 9, 3) := by decide +kernel
theorem dX7_visitOf_22 : decode cX7_visitOf 22 = .ok (.iload_n 1, 1) := by decide +kernel
theorem dX7_visitOf_23 : decode cX7_visitOf 23 = .ok (.iconst 1, 1) := by decide +kernel
theorem dX7_visitOf_24 : decode cX7_visitOf 24 = .ok (.iadd, 1) := by decide +kernel
theorem dX7_visitOf_25 : decode cX7_visitOf 25 = .ok (.goto 4, 3) := by decide +kernel
theorem dX7_visitOf_28 : decode cX7_visitOf 28 = .ok (.iconst 0, 1) := by decide +kernel
theorem dX7_visitOf_29 : decode cX7_visitOf 29 = .ok (.istore_n 3, 1) := by decide +kernel
theorem dX7_visitOf_30 : decode cX7_visitOf 30 = .ok (.iload_n 3, 1) := by decide +kernel
theorem dX7_visitOf_31 : decode cX7_visitOf 31 = .ok (.iload_n 1, 1) := by decide +kernel
theorem dX7_visitOf_32 : decode cX7_visitOf 32 = .ok (.if_icmp .ne 7, 3) := by decide +kernel
theorem dX7_visitOf_35 : decode cX7_visitOf 35 = .ok (.aconst_null, 1) := by decide +kernel
theorem dX7_visitOf_36 : decode cX7_visitOf 36 = .ok (.goto 8, 3) := by decide +kernel
theorem dX7_visitOf_39 : decode cX7_visitOf 39 = .ok (.aload_n 0, 1) := by decide +kernel
theorem dX7_visitOf_40 : decode cX7_visitOf 40 = .ok (.iload_n 3, 1) := by decide +kernel
theorem dX7_visitOf_41 : decode cX7_visitOf 41 = .ok (.invokevirtual 88, 3) := by decide +kernel
theorem dX7_visitOf_44 : decode cX7_visitOf 44 = .ok (.astore 4, 2) := by decide +kernel
theorem dX7_visitOf_46 : decode cX7_visitOf 46 = .ok (.aload 4, 2) := by decide +kernel
theorem dX7_visitOf_48 : decode cX7_visitOf 48 = .ok (.ifnonnull 7, 3) := by decide +kernel
theorem dX7_visitOf_51 : decode cX7_visitOf 51 = .ok (.iconst 0, 1) := by decide +kernel
theorem dX7_visitOf_52 : decode cX7_visitOf 52 = .ok (.goto 8, 3) := by decide +kernel
theorem dX7_visitOf_55 : decode cX7_visitOf 55 = .ok (.aload 4, 2) := by decide +kernel
theorem dX7_visitOf_57 : decode cX7_visitOf 57 = .ok (.getfield 223, 3) := by decide +kernel
theorem dX7_visitOf_60 : decode cX7_visitOf 60 = .ok (.istore 5, 2) := by decide +kernel
theorem dX7_visitOf_62 : decode cX7_visitOf 62 = .ok (.aload_n 0, 1) := by decide +kernel
theorem dX7_visitOf_63 : decode cX7_visitOf 63 = .ok (.getfield 42, 3) := by decide +kernel
theorem dX7_visitOf_66 : decode cX7_visitOf 66 = .ok (.aload_n 2, 1) := by decide +kernel
theorem dX7_visitOf_67 : decode cX7_visitOf 67 = .ok (.iload 5, 2) := by decide +kernel
theorem dX7_visitOf_69 : decode cX7_visitOf 69 = .ok (.aload_n 0, 1) := by decide +kernel
theorem dX7_visitOf_70 : decode cX7_visitOf 70 = .ok (.getfield 85, 3) := by decide +kernel
theorem dX7_visitOf_73 : decode cX7_visitOf 73 = .ok (.aload_n 0, 1) := by decide +kernel
theorem dX7_visitOf_74 : decode cX7_visitOf 74 = .ok (.aload_n 0, 1) := by decide +kernel
theorem dX7_visitOf_75 : decode cX7_visitOf 75 = .ok (.getfield 137, 3) := by decide +kernel
theorem dX7_visitOf_78 : decode cX7_visitOf 78 = .ok (.invokevirtual 67, 3) := by decide +kernel
theorem dX7_visitOf_81 : decode cX7_visitOf 81 = .ok (.invokevirtual 309, 3) := by decide +kernel
theorem dX7_visitOf_84 : decode cX7_visitOf 84 = .ok (.aload_n 0, 1) := by decide +kernel
theorem dX7_visitOf_85 : decode cX7_visitOf 85 = .ok (.getfield 42, 3) := by decide +kernel
theorem dX7_visitOf_88 : decode cX7_visitOf 88 = .ok (.areturn, 1) := by decide +kernel
theorem dX7_fillFewSets_0 : decode cX7_fillFewSets 0 = .ok (.iconst 0, 1) := by decide +kernel
theorem dX7_fillFewSets_1 : decode cX7_fillFewSets 1 = .ok (.istore_n 1, 1) := by decide +kernel
theorem dX7_fillFewSets_2 : decode cX7_fillFewSets 2 = .ok (.iconst 1, 1) := by decide +kernel
theorem dX7_fillFewSets_3 : decode cX7_fillFewSets 3 = .ok (.istore_n 2, 1) := by decide +kernel
theorem dX7_fillFewSets_4 : decode cX7_fillFewSets 4 = .ok (.iload_n 2, 1) := by decide +kernel
theorem dX7_fillFewSets_5 : decode cX7_fillFewSets 5 = .ok (.iconst 3, 1) := by decide +kernel
theorem dX7_fillFewSets_6 : decode cX7_fillFewSets 6 = .ok (.if_icmp .gt 51, 3) := by decide +kernel
theorem dX7_fillFewSets_9 : decode cX7_fillFewSets 9 = .ok (.iconst 1, 1) := by decide +kernel
theorem dX7_fillFewSets_10 : decode cX7_fillFewSets 10 = .ok (.istore_n 3, 1) := by decide +kernel
theorem dX7_fillFewSets_11 : decode cX7_fillFewSets 11 = .ok (.iload_n 3, 1) := by decide +kernel
theorem dX7_fillFewSets_12 : decode cX7_fillFewSets 12 = .ok (.sipush 4095, 3) := by decide +kernel
theorem dX7_fillFewSets_15 : decode cX7_fillFewSets 15 = .ok (.if_icmp .gt 36, 3) := by decide +kernel
theorem dX7_fillFewSets_18 : decode cX7_fillFewSets 18 = .ok (.iload_n 3, 1) := by decide +kernel
theorem dX7_fillFewSets_19 : decode cX7_fillFewSets 19 = .ok (.invokestatic 184, 3) := by decide +kernel
theorem dX7_fillFewSets_22 : decode cX7_fillFewSets 22 = .ok (.iload_n 2, 1) := by decide +kernel
theorem dX7_fillFewSets_23 : decode cX7_fillFewSets 23 = .ok (.if_icmp .ne 22, 3) := by decide +kernel
theorem dX7_fillFewSets_26 : decode cX7_fillFewSets 26 = .ok (.iload_n 1, 1) := by decide +kernel
theorem dX7_fillFewSets_27 : decode cX7_fillFewSets 27 = .ok (.aload_n 0, 1) := by decide +kernel
theorem dX7_fillFewSets_28 : decode cX7_fillFewSets 28 = .ok (.getfield 13, 3) := by decide +kernel
theorem dX7_fillFewSets_31 : decode cX7_fillFewSets 31 = .ok (.arraylength, 1) := by decide +kernel
theorem dX7_fillFewSets_32 : decode cX7_fillFewSets 32 = .ok (.if_icmp .ge 13, 3) := by decide +kernel
theorem dX7_fillFewSets_35 : decode cX7_fillFewSets 35 = .ok (.aload_n 0, 1) := by decide +kernel
theorem dX7_fillFewSets_36 : decode cX7_fillFewSets 36 = .ok (.getfield 13, 3) := by decide +kernel
theorem dX7_fillFewSets_39 : decode cX7_fillFewSets 39 = .ok (.iload_n 1, 1) := by decide +kernel
theorem dX7_fillFewSets_40 : decode cX7_fillFewSets 40 = .ok (.iload_n 3, 1) := by decide +kernel
theorem dX7_fillFewSets_41 : decode cX7_fillFewSets 41 = .ok (.iastore, 1) := by decide +kernel
theorem dX7_fillFewSets_42 : decode cX7_fillFewSets 42 = .ok (.iinc 1 1, 3) := by decide +kernel
theorem dX7_fillFewSets_45 : decode cX7_fillFewSets 45 = .ok (.iinc 3 1, 3) := by decide +kernel
theorem dX7_fillFewSets_48 : decode cX7_fillFewSets 48 = .ok (.goto (-37), 3) := by decide +kernel
theorem dX7_fillFewSets_51 : decode cX7_fillFewSets 51 = .ok (.iinc 2 1, 3) := by decide +kernel
theorem dX7_fillFewSets_54 : decode cX7_fillFewSets 54 = .ok (.goto (-50), 3) := by decide +kernel
theorem dX7_fillFewSets_57 : decode cX7_fillFewSets 57 = .ok (.return_, 1) := by decide +kernel
theorem dX7_neverGiven_0 : decode cX7_neverGiven 0 = .ok (.aload_n 0, 1) := by decide +kernel
theorem dX7_neverGiven_1 : decode cX7_neverGiven 1 = .ok (.iload_n 1, 1) := by decide +kernel
theorem dX7_neverGiven_2 : decode cX7_neverGiven 2 = .ok (.invokevirtual 108, 3) := by decide +kernel
theorem dX7_neverGiven_5 : decode cX7_neverGiven 5 = .ok (.astore_n 2, 1) := by decide +kernel
theorem dX7_neverGiven_6 : decode cX7_neverGiven 6 = .ok (.aload_n 2, 1) := by decide +kernel
theorem dX7_neverGiven_7 : decode cX7_neverGiven 7 = .ok (.ifnonnull 7, 3) := by decide +kernel
theorem dX7_neverGiven_10 : decode cX7_neverGiven 10 = .ok (.sipush 4095, 3) := by decide +kernel
theorem dX7_neverGiven_13 : decode cX7_neverGiven 13 = .ok (.ireturn, 1) := by decide +kernel
theorem dX7_neverGiven_14 : decode cX7_neverGiven 14 = .ok (.iconst 0, 1) := by decide +kernel
theorem dX7_neverGiven_15 : decode cX7_neverGiven 15 = .ok (.istore_n 3, 1) := by decide +kernel
theorem dX7_neverGiven_16 : decode cX7_neverGiven 16 = .ok (.iconst 0, 1) := by decide +kernel
theorem dX7_neverGiven_17 : decode cX7_neverGiven 17 = .ok (.istore 4, 2) := by decide +kernel
theorem dX7_neverGiven_19 : decode cX7_neverGiven 19 = .ok (.iload 4, 2) := by decide +kernel
theorem dX7_neverGiven_21 : decode cX7_neverGiven 21 = .ok (.aload_n 0, 1) := by decide +kernel
theorem dX7_neverGiven_22 : decode cX7_neverGiven 22 = .ok (.getfield 13, 3) := by decide +kernel
theorem dX7_neverGiven_25 : decode cX7_neverGiven 25 = .ok (.arraylength, 1) := by decide +kernel
theorem dX7_neverGiven_26 : decode cX7_neverGiven 26 = .ok (.if_icmp .ge 37, 3) := by decide +kernel
theorem dX7_neverGiven_29 : decode cX7_neverGiven 29 = .ok (.aload_n 2, 1) := by decide +kernel
theorem dX7_neverGiven_30 : decode cX7_neverGiven 30 = .ok (.aload_n 0, 1) := by decide +kernel
theorem dX7_neverGiven_31 : decode cX7_neverGiven 31 = .ok (.getfield 13, 3) := by decide +kernel
theorem dX7_neverGiven_34 : decode cX7_neverGiven 34 = .ok (.iload 4, 2) := by decide +kernel
theorem dX7_neverGiven_36 : decode cX7_neverGiven 36 = .ok (.iaload, 1) := by decide +kernel
theorem dX7_neverGiven_37 : decode cX7_neverGiven 37 = .ok (.invokevirtual 118, 3) := by decide +kernel
theorem dX7_neverGiven_40 : decode cX7_neverGiven 40 = .ok (.istore 5, 2) := by decide +kernel
theorem dX7_neverGiven_42 : decode cX7_neverGiven 42 = .ok (.iload 5, 2) := by decide +kernel
theorem dX7_neverGiven_44 : decode cX7_neverGiven 44 = .ok (.invokestatic 77, 3) := by decide +kernel
theorem dX7_neverGiven_47 : decode cX7_neverGiven 47 = .ok (.ifCond .eq 10, 3) := by decide +kernel
theorem dX7_neverGiven_50 : decode cX7_neverGiven 50 = .ok (.iload_n 3, 1) := by decide +kernel
theorem dX7_neverGiven_51 : decode cX7_neverGiven 51 = .ok (.iconst 1, 1) := by decide +kernel
theorem dX7_neverGiven_52 : decode cX7_neverGiven 52 = .ok (.iload 5, 2) := by decide +kernel
theorem dX7_neverGiven_54 : decode cX7_neverGiven 54 = .ok (.ishl, 1) := by decide +kernel
theorem dX7_neverGiven_55 : decode cX7_neverGiven 55 = .ok (.ior, 1) := by decide +kernel
theorem dX7_neverGiven_56 : decode cX7_neverGiven 56 = .ok (.istore_n 3, 1) := by decide +kernel
theorem dX7_neverGiven_57 : decode cX7_neverGiven 57 = .ok (.iinc 4 1, 3) := by decide +kernel
theorem dX7_neverGiven_60 : decode cX7_neverGiven 60 = .ok (.goto (-41), 3) := by decide +kernel
theorem dX7_neverGiven_63 : decode cX7_neverGiven 63 = .ok (.sipush 4095, 3) := by decide +kernel
theorem dX7_neverGiven_66 : decode cX7_neverGiven 66 = .ok (.iload_n 3, 1) := by decide +kernel
theorem dX7_neverGiven_67 : decode cX7_neverGiven 67 = .ok (.iconst (-1), 1) := by decide +kernel
theorem dX7_neverGiven_68 : decode cX7_neverGiven 68 = .ok (.ixor, 1) := by decide +kernel
theorem dX7_neverGiven_69 : decode cX7_neverGiven 69 = .ok (.iand, 1) := by decide +kernel
theorem dX7_neverGiven_70 : decode cX7_neverGiven 70 = .ok (.ireturn, 1) := by decide +kernel
theorem dX7_rowRefusal_0 : decode cX7_rowRefusal 0 = .ok (.aload_n 0, 1) := by decide +kernel
theorem dX7_rowRefusal_1 : decode cX7_rowRefusal 1 = .ok (.invokevirtual 196, 3) := by decide +kernel
theorem dX7_rowRefusal_4 : decode cX7_rowRefusal 4 = .ok (.ifCond .eq 7, 3) := by decide +kernel
theorem dX7_rowRefusal_7 : decode cX7_rowRefusal 7 = .ok (.sipush (-1011), 3) := by decide +kernel
theorem dX7_rowRefusal_10 : decode cX7_rowRefusal 10 = .ok (.ireturn, 1) := by decide +kernel
theorem dX7_rowRefusal_11 : decode cX7_rowRefusal 11 = .ok (.iconst 0, 1) := by decide +kernel
theorem dX7_rowRefusal_12 : decode cX7_rowRefusal 12 = .ok (.istore_n 1, 1) := by decide +kernel
theorem dX7_rowRefusal_13 : decode cX7_rowRefusal 13 = .ok (.iload_n 1, 1) := by decide +kernel
theorem dX7_rowRefusal_14 : decode cX7_rowRefusal 14 = .ok (.aload_n 0, 1) := by decide +kernel
theorem dX7_rowRefusal_15 : decode cX7_rowRefusal 15 = .ok (.getfield 228, 3) := by decide +kernel
theorem dX7_rowRefusal_18 : decode cX7_rowRefusal 18 = .ok (.if_icmp .ge 24, 3) := by decide +kernel
theorem dX7_rowRefusal_21 : decode cX7_rowRefusal 21 = .ok (.aload_n 0, 1) := by decide +kernel
theorem dX7_rowRefusal_22 : decode cX7_rowRefusal 22 = .ok (.iload_n 1, 1) := by decide +kernel
theorem dX7_rowRefusal_23 : decode cX7_rowRefusal 23 = .ok (.invokevirtual 293, 3) := by decide +kernel
theorem dX7_rowRefusal_26 : decode cX7_rowRefusal 26 = .ok (.invokestatic 112, 3) := by decide +kernel
theorem dX7_rowRefusal_29 : decode cX7_rowRefusal 29 = .ok (.ifCond .ne 7, 3) := by decide +kernel
theorem dX7_rowRefusal_32 : decode cX7_rowRefusal 32 = .ok (.sipush (-1002), 3) := by decide +kernel
theorem dX7_rowRefusal_35 : decode cX7_rowRefusal 35 = .ok (.ireturn, 1) := by decide +kernel
theorem dX7_rowRefusal_36 : decode cX7_rowRefusal 36 = .ok (.iinc 1 1, 3) := by decide +kernel
theorem dX7_rowRefusal_39 : decode cX7_rowRefusal 39 = .ok (.goto (-26), 3) := by decide +kernel
theorem dX7_rowRefusal_42 : decode cX7_rowRefusal 42 = .ok (.iconst 0, 1) := by decide +kernel
theorem dX7_rowRefusal_43 : decode cX7_rowRefusal 43 = .ok (.ireturn, 1) := by decide +kernel
theorem dX7_askInRow_0 : decode cX7_askInRow 0 = .ok (.iconst 0, 1) := by decide +kernel
theorem dX7_askInRow_1 : decode cX7_askInRow 1 = .ok (.istore_n 2, 1) := by decide +kernel
theorem dX7_askInRow_2 : decode cX7_askInRow 2 = .ok (.iload_n 2, 1) := by decide +kernel
theorem dX7_askInRow_3 : decode cX7_askInRow 3 = .ok (.aload_n 1, 1) := by decide +kernel
theorem dX7_askInRow_4 : decode cX7_askInRow 4 = .ok (.getfield 228, 3) := by decide +kernel
theorem dX7_askInRow_7 : decode cX7_askInRow 7 = .ok (.if_icmp .ge 19, 3) := by decide +kernel
theorem dX7_askInRow_10 : decode cX7_askInRow 10 = .ok (.aload_n 0, 1) := by decide +kernel
theorem dX7_askInRow_11 : decode cX7_askInRow 11 = .ok (.aload_n 1, 1) := by decide +kernel
theorem dX7_askInRow_12 : decode cX7_askInRow 12 = .ok (.iload_n 2, 1) := by decide +kernel
theorem dX7_askInRow_13 : decode cX7_askInRow 13 = .ok (.invokevirtual 293, 3) := by decide +kernel
theorem dX7_askInRow_16 : decode cX7_askInRow 16 = .ok (.invokevirtual 140, 3) := by decide +kernel
theorem dX7_askInRow_19 : decode cX7_askInRow 19 = .ok (.pop, 1) := by decide +kernel
theorem dX7_askInRow_20 : decode cX7_askInRow 20 = .ok (.iinc 2 1, 3) := by decide +kernel
theorem dX7_askInRow_23 : decode cX7_askInRow 23 = .ok (.goto (-21), 3) := by decide +kernel
theorem dX7_askInRow_26 : decode cX7_askInRow 26 = .ok (.return_, 1) := by decide +kernel
theorem dX7_fewestLeaving_0 : decode cX7_fewestLeaving 0 = .ok (.iconst (-1), 1) := by decide +kernel
theorem dX7_fewestLeaving_1 : decode cX7_fewestLeaving 1 = .ok (.istore_n 2, 1) := by decide +kernel
theorem dX7_fewestLeaving_2 : decode cX7_fewestLeaving 2 = .ok (.bipush 13, 2) := by decide +kernel
theorem dX7_fewestLeaving_4 : decode cX7_fewestLeaving 4 = .ok (.istore_n 3, 1) := by decide +kernel
theorem dX7_fewestLeaving_5 : decode cX7_fewestLeaving 5 = .ok (.iconst 1, 1) := by decide +kernel
theorem dX7_fewestLeaving_6 : decode cX7_fewestLeaving 6 = .ok (.istore 4, 2) := by decide +kernel
theorem dX7_fewestLeaving_8 : decode cX7_fewestLeaving 8 = .ok (.iload 4, 2) := by decide +kernel
theorem dX7_fewestLeaving_10 : decode cX7_fewestLeaving 10 = .ok (.sipush 4095, 3) := by decide +kernel
theorem dX7_fewestLeaving_13 : decode cX7_fewestLeaving 13 = .ok (.if_icmp .gt 61, 3) := by decide +kernel
theorem dX7_fewestLeaving_16 : decode cX7_fewestLeaving 16 = .ok (.iload 4, 2) := by decide +kernel
theorem dX7_fewestLeaving_18 : decode cX7_fewestLeaving 18 = .ok (.invokestatic 184, 3) := by decide +kernel
theorem dX7_fewestLeaving_21 : decode cX7_fewestLeaving 21 = .ok (.istore 5, 2) := by decide +kernel
theorem dX7_fewestLeaving_23 : decode cX7_fewestLeaving 23 = .ok (.iload 5, 2) := by decide +kernel
theorem dX7_fewestLeaving_25 : decode cX7_fewestLeaving 25 = .ok (.iload_n 3, 1) := by decide +kernel
theorem dX7_fewestLeaving_26 : decode cX7_fewestLeaving 26 = .ok (.if_icmp .ge 16, 3) := by decide +kernel
theorem dX7_fewestLeaving_29 : decode cX7_fewestLeaving 29 = .ok (.iload 4, 2) := by decide +kernel
theorem dX7_fewestLeaving_31 : decode cX7_fewestLeaving 31 = .ok (.iload_n 1, 1) := by decide +kernel
theorem dX7_fewestLeaving_32 : decode cX7_fewestLeaving 32 = .ok (.ishr, 1) := by decide +kernel
theorem dX7_fewestLeaving_33 : decode cX7_fewestLeaving 33 = .ok (.iconst 1, 1) := by decide +kernel
theorem dX7_fewestLeaving_34 : decode cX7_fewestLeaving 34 = .ok (.iand, 1) := by decide +kernel
theorem dX7_fewestLeaving_35 : decode cX7_fewestLeaving 35 = .ok (.ifCond .ne 7, 3) := by decide +kernel
theorem dX7_fewestLeaving_38 : decode cX7_fewestLeaving 38 = .ok (.iconst 1, 1) := by decide +kernel
theorem dX7_fewestLeaving_39 : decode cX7_fewestLeaving 39 = .ok (.goto 4, 3) := by decide +kernel
theorem dX7_fewestLeaving_42 : decode cX7_fewestLeaving 42 = .ok (.iconst 0, 1) := by decide +kernel
theorem dX7_fewestLeaving_43 : decode cX7_fewestLeaving 43 = .ok (.istore 6, 2) := by decide +kernel
theorem dX7_fewestLeaving_45 : decode cX7_fewestLeaving 45 = .ok (.iload 6, 2) := by decide +kernel
theorem dX7_fewestLeaving_47 : decode cX7_fewestLeaving 47 = .ok (.ifCond .eq 21, 3) := by decide +kernel
theorem dX7_fewestLeaving_50 : decode cX7_fewestLeaving 50 = .ok (.aload_n 0, 1) := by decide +kernel
theorem dX7_fewestLeaving_51 : decode cX7_fewestLeaving 51 = .ok (.iload 4, 2) := by decide +kernel
theorem dX7_fewestLeaving_53 : decode cX7_fewestLeaving 53 = .ok (.invokevirtual 115, 3) := by decide +kernel
theorem dX7_fewestLeaving_56 : decode cX7_fewestLeaving 56 = .ok (.iconst 1, 1) := by decide +kernel
theorem dX7_fewestLeaving_57 : decode cX7_fewestLeaving 57 = .ok (.iload_n 1, 1) := by decide +kernel
theorem dX7_fewestLeaving_58 : decode cX7_fewestLeaving 58 = .ok (.ishl, 1) := by decide +kernel
theorem dX7_fewestLeaving_59 : decode cX7_fewestLeaving 59 = .ok (.if_icmp .ne 9, 3) := by decide +kernel
theorem dX7_fewestLeaving_62 : decode cX7_fewestLeaving 62 = .ok (.iload 4, 2) := by decide +kernel
theorem dX7_fewestLeaving_64 : decode cX7_fewestLeaving 64 = .ok (.istore_n 2, 1) := by decide +kernel
theorem dX7_fewestLeaving_65 : decode cX7_fewestLeaving 65 = .ok (.iload 5, 2) := by decide +kernel
theorem dX7_fewestLeaving_67 : decode cX7_fewestLeaving 67 = .ok (.istore_n 3, 1) := by decide +kernel
theorem dX7_fewestLeaving_68 : decode cX7_fewestLeaving 68 = .ok (.iinc 4 1, 3) := by decide +kernel
theorem dX7_fewestLeaving_71 : decode cX7_fewestLeaving 71 = .ok (.goto (-63), 3) := by decide +kernel
theorem dX7_fewestLeaving_74 : decode cX7_fewestLeaving 74 = .ok (.iload_n 2, 1) := by decide +kernel
theorem dX7_fewestLeaving_75 : decode cX7_fewestLeaving 75 = .ok (.ireturn, 1) := by decide +kernel
theorem dX7_gladdestSet_0 : decode cX7_gladdestSet 0 = .ok (.iconst (-1), 1) := by decide +kernel
theorem dX7_gladdestSet_1 : decode cX7_gladdestSet 1 = .ok (.istore_n 2, 1) := by decide +kernel
theorem dX7_gladdestSet_2 : decode cX7_gladdestSet 2 = .ok (.iconst 0, 1) := by decide +kernel
theorem dX7_gladdestSet_3 : decode cX7_gladdestSet 3 = .ok (.istore_n 3, 1) := by decide +kernel
theorem dX7_gladdestSet_4 : decode cX7_gladdestSet 4 = .ok (.iconst 0, 1) := by decide +kernel
theorem dX7_gladdestSet_5 : decode cX7_gladdestSet 5 = .ok (.istore 4, 2) := by decide +kernel
theorem dX7_gladdestSet_7 : decode cX7_gladdestSet 7 = .ok (.iload 4, 2) := by decide +kernel
theorem dX7_gladdestSet_9 : decode cX7_gladdestSet 9 = .ok (.aload_n 0, 1) := by decide +kernel
theorem dX7_gladdestSet_10 : decode cX7_gladdestSet 10 = .ok (.getfield 13, 3) := by decide +kernel
theorem dX7_gladdestSet_13 : decode cX7_gladdestSet 13 = .ok (.arraylength, 1) := by decide +kernel
theorem dX7_gladdestSet_14 : decode cX7_gladdestSet 14 = .ok (.if_icmp .ge 61, 3) := by decide +kernel
theorem dX7_gladdestSet_17 : decode cX7_gladdestSet 17 = .ok (.aload_n 1, 1) := by decide +kernel
theorem dX7_gladdestSet_18 : decode cX7_gladdestSet 18 = .ok (.aload_n 0, 1) := by decide +kernel
theorem dX7_gladdestSet_19 : decode cX7_gladdestSet 19 = .ok (.getfield 13, 3) := by decide +kernel
theorem dX7_gladdestSet_22 : decode cX7_gladdestSet 22 = .ok (.iload 4, 2) := by decide +kernel
theorem dX7_gladdestSet_24 : decode cX7_gladdestSet 24 = .ok (.iaload, 1) := by decide +kernel
theorem dX7_gladdestSet_25 : decode cX7_gladdestSet 25 = .ok (.invokevirtual 118, 3) := by decide +kernel
theorem dX7_gladdestSet_28 : decode cX7_gladdestSet 28 = .ok (.istore 5, 2) := by decide +kernel
theorem dX7_gladdestSet_30 : decode cX7_gladdestSet 30 = .ok (.iload 5, 2) := by decide +kernel
theorem dX7_gladdestSet_32 : decode cX7_gladdestSet 32 = .ok (.iconst (-1), 1) := by decide +kernel
theorem dX7_gladdestSet_33 : decode cX7_gladdestSet 33 = .ok (.if_icmp .ne 6, 3) := by decide +kernel
theorem dX7_gladdestSet_36 : decode cX7_gladdestSet 36 = .ok (.goto 33, 3) := by decide +kernel
theorem dX7_gladdestSet_39 : decode cX7_gladdestSet 39 = .ok (.aload_n 1, 1) := by decide +kernel
theorem dX7_gladdestSet_40 : decode cX7_gladdestSet 40 = .ok (.iload 5, 2) := by decide +kernel
theorem dX7_gladdestSet_42 : decode cX7_gladdestSet 42 = .ok (.invokevirtual 127, 3) := by decide +kernel
theorem dX7_gladdestSet_45 : decode cX7_gladdestSet 45 = .ok (.istore 6, 2) := by decide +kernel
theorem dX7_gladdestSet_47 : decode cX7_gladdestSet 47 = .ok (.iload_n 2, 1) := by decide +kernel
theorem dX7_gladdestSet_48 : decode cX7_gladdestSet 48 = .ok (.iconst (-1), 1) := by decide +kernel
theorem dX7_gladdestSet_49 : decode cX7_gladdestSet 49 = .ok (.if_icmp .eq 9, 3) := by decide +kernel
theorem dX7_gladdestSet_52 : decode cX7_gladdestSet 52 = .ok (.iload 6, 2) := by decide +kernel
theorem dX7_gladdestSet_54 : decode cX7_gladdestSet 54 = .ok (.iload_n 3, 1) := by decide +kernel
theorem dX7_gladdestSet_55 : decode cX7_gladdestSet 55 = .ok (.if_icmp .le 14, 3) := by decide +kernel
theorem dX7_gladdestSet_58 : decode cX7_gladdestSet 58 = .ok (.aload_n 0, 1) := by decide +kernel
theorem dX7_gladdestSet_59 : decode cX7_gladdestSet 59 = .ok (.getfield 13, 3) := by decide +kernel
theorem dX7_gladdestSet_62 : decode cX7_gladdestSet 62 = .ok (.iload 4, 2) := by decide +kernel
theorem dX7_gladdestSet_64 : decode cX7_gladdestSet 64 = .ok (.iaload, 1) := by decide +kernel
theorem dX7_gladdestSet_65 : decode cX7_gladdestSet 65 = .ok (.istore_n 2, 1) := by decide +kernel
theorem dX7_gladdestSet_66 : decode cX7_gladdestSet 66 = .ok (.iload 6, 2) := by decide +kernel
theorem dX7_gladdestSet_68 : decode cX7_gladdestSet 68 = .ok (.istore_n 3, 1) := by decide +kernel
theorem dX7_gladdestSet_69 : decode cX7_gladdestSet 69 = .ok (.iinc 4 1, 3) := by decide +kernel
theorem dX7_gladdestSet_72 : decode cX7_gladdestSet 72 = .ok (.goto (-65), 3) := by decide +kernel
theorem dX7_gladdestSet_75 : decode cX7_gladdestSet 75 = .ok (.iload_n 2, 1) := by decide +kernel
theorem dX7_gladdestSet_76 : decode cX7_gladdestSet 76 = .ok (.ireturn, 1) := by decide +kernel
theorem dX7_cheapestSet_0 : decode cX7_cheapestSet 0 = .ok (.iconst (-1), 1) := by decide +kernel
theorem dX7_cheapestSet_1 : decode cX7_cheapestSet 1 = .ok (.istore_n 3, 1) := by decide +kernel
theorem dX7_cheapestSet_2 : decode cX7_cheapestSet 2 = .ok (.iconst 0, 1) := by decide +kernel
theorem dX7_cheapestSet_3 : decode cX7_cheapestSet 3 = .ok (.istore 4, 2) := by decide +kernel
theorem dX7_cheapestSet_5 : decode cX7_cheapestSet 5 = .ok (.iconst 0, 1) := by decide +kernel
theorem dX7_cheapestSet_6 : decode cX7_cheapestSet 6 = .ok (.istore 5, 2) := by decide +kernel
theorem dX7_cheapestSet_8 : decode cX7_cheapestSet 8 = .ok (.iload 5, 2) := by decide +kernel
theorem dX7_cheapestSet_10 : decode cX7_cheapestSet 10 = .ok (.aload_n 0, 1) := by decide +kernel
theorem dX7_cheapestSet_11 : decode cX7_cheapestSet 11 = .ok (.getfield 13, 3) := by decide +kernel
theorem dX7_cheapestSet_14 : decode cX7_cheapestSet 14 = .ok (.arraylength, 1) := by decide +kernel
theorem dX7_cheapestSet_15 : decode cX7_cheapestSet 15 = .ok (.if_icmp .ge 64, 3) := by decide +kernel
theorem dX7_cheapestSet_18 : decode cX7_cheapestSet 18 = .ok (.aload_n 1, 1) := by decide +kernel
theorem dX7_cheapestSet_19 : decode cX7_cheapestSet 19 = .ok (.aload_n 0, 1) := by decide +kernel
theorem dX7_cheapestSet_20 : decode cX7_cheapestSet 20 = .ok (.getfield 13, 3) := by decide +kernel
theorem dX7_cheapestSet_23 : decode cX7_cheapestSet 23 = .ok (.iload 5, 2) := by decide +kernel
theorem dX7_cheapestSet_25 : decode cX7_cheapestSet 25 = .ok (.iaload, 1) := by decide +kernel
theorem dX7_cheapestSet_26 : decode cX7_cheapestSet 26 = .ok (.invokevirtual 118, 3) := by decide +kernel
theorem dX7_cheapestSet_29 : decode cX7_cheapestSet 29 = .ok (.iload_n 2, 1) := by decide +kernel
theorem dX7_cheapestSet_30 : decode cX7_cheapestSet 30 = .ok (.if_icmp .eq 6, 3) := by decide +kernel
theorem dX7_cheapestSet_33 : decode cX7_cheapestSet 33 = .ok (.goto 40, 3) := by decide +kernel
theorem dX7_cheapestSet_36 : decode cX7_cheapestSet 36 = .ok (.aload_n 1, 1) := by decide +kernel
theorem dX7_cheapestSet_37 : decode cX7_cheapestSet 37 = .ok (.aload_n 0, 1) := by decide +kernel
theorem dX7_cheapestSet_38 : decode cX7_cheapestSet 38 = .ok (.getfield 13, 3) := by decide +kernel
theorem dX7_cheapestSet_41 : decode cX7_cheapestSet 41 = .ok (.iload 5, 2) := by decide +kernel
theorem dX7_cheapestSet_43 : decode cX7_cheapestSet 43 = .ok (.iaload, 1) := by decide +kernel
theorem dX7_cheapestSet_44 : decode cX7_cheapestSet 44 = .ok (.invokevirtual 124, 3) := by decide +kernel
theorem dX7_cheapestSet_47 : decode cX7_cheapestSet 47 = .ok (.istore 6, 2) := by decide +kernel
theorem dX7_cheapestSet_49 : decode cX7_cheapestSet 49 = .ok (.iload_n 3, 1) := by decide +kernel
theorem dX7_cheapestSet_50 : decode cX7_cheapestSet 50 = .ok (.iconst (-1), 1) := by decide +kernel
theorem dX7_cheapestSet_51 : decode cX7_cheapestSet 51 = .ok (.if_icmp .eq 10, 3) := by decide +kernel
theorem dX7_cheapestSet_54 : decode cX7_cheapestSet 54 = .ok (.iload 6, 2) := by decide +kernel
theorem dX7_cheapestSet_56 : decode cX7_cheapestSet 56 = .ok (.iload 4, 2) := by decide +kernel
theorem dX7_cheapestSet_58 : decode cX7_cheapestSet 58 = .ok (.if_icmp .ge 15, 3) := by decide +kernel
theorem dX7_cheapestSet_61 : decode cX7_cheapestSet 61 = .ok (.aload_n 0, 1) := by decide +kernel
theorem dX7_cheapestSet_62 : decode cX7_cheapestSet 62 = .ok (.getfield 13, 3) := by decide +kernel
theorem dX7_cheapestSet_65 : decode cX7_cheapestSet 65 = .ok (.iload 5, 2) := by decide +kernel
theorem dX7_cheapestSet_67 : decode cX7_cheapestSet 67 = .ok (.iaload, 1) := by decide +kernel
theorem dX7_cheapestSet_68 : decode cX7_cheapestSet 68 = .ok (.istore_n 3, 1) := by decide +kernel
theorem dX7_cheapestSet_69 : decode cX7_cheapestSet 69 = .ok (.iload 6, 2) := by decide +kernel
theorem dX7_cheapestSet_71 : decode cX7_cheapestSet 71 = .ok (.istore 4, 2) := by decide +kernel
theorem dX7_cheapestSet_73 : decode cX7_cheapestSet 73 = .ok (.iinc 5 1, 3) := by decide +kernel
theorem dX7_cheapestSet_76 : decode cX7_cheapestSet 76 = .ok (.goto (-68), 3) := by decide +kernel
theorem dX7_cheapestSet_79 : decode cX7_cheapestSet 79 = .ok (.iload_n 3, 1) := by decide +kernel
theorem dX7_cheapestSet_80 : decode cX7_cheapestSet 80 = .ok (.ireturn, 1) := by decide +kernel
theorem dX7_tellsSetsAndThings_0 : decode cX7_tellsSetsAndThings 0 = .ok (.aload_n 0, 1) := by decide +kernel
theorem dX7_tellsSetsAndThings_1 : decode cX7_tellsSetsAndThings 1 = .ok (.getfield 228, 3) := by decide +kernel
theorem dX7_tellsSetsAndThings_4 : decode cX7_tellsSetsAndThings 4 = .ok (.iconst 2, 1) := by decide +kernel
theorem dX7_tellsSetsAndThings_5 : decode cX7_tellsSetsAndThings 5 = .ok (.irem, 1) := by decide +kernel
theorem dX7_tellsSetsAndThings_6 : decode cX7_tellsSetsAndThings 6 = .ok (.ifCond .eq 5, 3) := by decide +kernel
theorem dX7_tellsSetsAndThings_9 : decode cX7_tellsSetsAndThings 9 = .ok (.iconst 0, 1) := by decide +kernel
theorem dX7_tellsSetsAndThings_10 : decode cX7_tellsSetsAndThings 10 = .ok (.ireturn, 1) := by decide +kernel
theorem dX7_tellsSetsAndThings_11 : decode cX7_tellsSetsAndThings 11 = .ok (.iconst 0, 1) := by decide +kernel
theorem dX7_tellsSetsAndThings_12 : decode cX7_tellsSetsAndThings 12 = .ok (.istore_n 1, 1) := by decide +kernel
theorem dX7_tellsSetsAndThings_13 : decode cX7_tellsSetsAndThings 13 = .ok (.iload_n 1, 1) := by decide +kernel
theorem dX7_tellsSetsAndThings_14 : decode cX7_tellsSetsAndThings 14 = .ok (.iconst 1, 1) := by decide +kernel
theorem dX7_tellsSetsAndThings_15 : decode cX7_tellsSetsAndThings 15 = .ok (.iadd, 1) := by decide +kernel
theorem dX7_tellsSetsAndThings_16 : decode cX7_tellsSetsAndThings 16 = .ok (.aload_n 0, 1) := by decide +kernel
theorem dX7_tellsSetsAndThings_17 : decode cX7_tellsSetsAndThings 17 = .ok (.getfield 228, 3) := by decide +kernel
theorem dX7_tellsSetsAndThings_20 : decode cX7_tellsSetsAndThings 20 = .ok (.if_icmp .ge 41, 3) := by decide +kernel
theorem dX7_tellsSetsAndThings_23 : decode cX7_tellsSetsAndThings 23 = .ok (.aload_n 0, 1) := by decide +kernel
theorem dX7_tellsSetsAndThings_24 : decode cX7_tellsSetsAndThings 24 = .ok (.iload_n 1, 1) := by decide +kernel
theorem dX7_tellsSetsAndThings_25 : decode cX7_tellsSetsAndThings 25 = .ok (.invokevirtual 293, 3) := by decide +kernel
theorem dX7_tellsSetsAndThings_28 : decode cX7_tellsSetsAndThings 28 = .ok (.istore_n 2, 1) := by decide +kernel
theorem dX7_tellsSetsAndThings_29 : decode cX7_tellsSetsAndThings 29 = .ok (.iload_n 2, 1) := by decide +kernel
theorem dX7_tellsSetsAndThings_30 : decode cX7_tellsSetsAndThings 30 = .ok (.ifCond .lt 23, 3) := by decide +kernel
theorem dX7_tellsSetsAndThings_33 : decode cX7_tellsSetsAndThings 33 = .ok (.iload_n 2, 1) := by decide +kernel
theorem dX7_tellsSetsAndThings_34 : decode cX7_tellsSetsAndThings 34 = .ok (.sipush 4095, 3) := by decide +kernel
theorem dX7_tellsSetsAndThings_37 : decode cX7_tellsSetsAndThings 37 = .ok (.if_icmp .gt 16, 3) := by decide +kernel
theorem dX7_tellsSetsAndThings_40 : decode cX7_tellsSetsAndThings 40 = .ok (.aload_n 0, 1) := by decide +kernel
theorem dX7_tellsSetsAndThings_41 : decode cX7_tellsSetsAndThings 41 = .ok (.iload_n 1, 1) := by decide +kernel
theorem dX7_tellsSetsAndThings_42 : decode cX7_tellsSetsAndThings 42 = .ok (.iconst 1, 1) := by decide +kernel
theorem dX7_tellsSetsAndThings_43 : decode cX7_tellsSetsAndThings 43 = .ok (.iadd, 1) := by decide +kernel
theorem dX7_tellsSetsAndThings_44 : decode cX7_tellsSetsAndThings 44 = .ok (.invokevirtual 293, 3) := by decide +kernel
theorem dX7_tellsSetsAndThings_47 : decode cX7_tellsSetsAndThings 47 = .ok (.invokestatic 77, 3) := by decide +kernel
theorem dX7_tellsSetsAndThings_50 : decode cX7_tellsSetsAndThings 50 = .ok (.ifCond .ne 5, 3) := by decide +kernel
theorem dX7_tellsSetsAndThings_53 : decode cX7_tellsSetsAndThings 53 = .ok (.iconst 0, 1) := by decide +kernel
theorem dX7_tellsSetsAndThings_54 : decode cX7_tellsSetsAndThings 54 = .ok (.ireturn, 1) := by decide +kernel
theorem dX7_tellsSetsAndThings_55 : decode cX7_tellsSetsAndThings 55 = .ok (.iinc 1 2, 3) := by decide +kernel
theorem dX7_tellsSetsAndThings_58 : decode cX7_tellsSetsAndThings 58 = .ok (.goto (-45), 3) := by decide +kernel
theorem dX7_tellsSetsAndThings_61 : decode cX7_tellsSetsAndThings 61 = .ok (.iconst 1, 1) := by decide +kernel
theorem dX7_tellsSetsAndThings_62 : decode cX7_tellsSetsAndThings 62 = .ok (.ireturn, 1) := by decide +kernel
theorem dX7_isRuledOut_0 : decode cX7_isRuledOut 0 = .ok (.iconst 0, 1) := by decide +kernel
theorem dX7_isRuledOut_1 : decode cX7_isRuledOut 1 = .ok (.istore_n 3, 1) := by decide +kernel
theorem dX7_isRuledOut_2 : decode cX7_isRuledOut 2 = .ok (.iload_n 3, 1) := by decide +kernel
theorem dX7_isRuledOut_3 : decode cX7_isRuledOut 3 = .ok (.iconst 1, 1) := by decide +kernel
theorem dX7_isRuledOut_4 : decode cX7_isRuledOut 4 = .ok (.iadd, 1) := by decide +kernel
theorem dX7_isRuledOut_5 : decode cX7_isRuledOut 5 = .ok (.aload_n 0, 1) := by decide +kernel
theorem dX7_isRuledOut_6 : decode cX7_isRuledOut 6 = .ok (.getfield 228, 3) := by decide +kernel
theorem dX7_isRuledOut_9 : decode cX7_isRuledOut 9 = .ok (.if_icmp .ge 59, 3) := by decide +kernel
theorem dX7_isRuledOut_12 : decode cX7_isRuledOut 12 = .ok (.aload_n 0, 1) := by decide +kernel
theorem dX7_isRuledOut_13 : decode cX7_isRuledOut 13 = .ok (.iload_n 3, 1) := by decide +kernel
theorem dX7_isRuledOut_14 : decode cX7_isRuledOut 14 = .ok (.invokevirtual 293, 3) := by decide +kernel
theorem dX7_isRuledOut_17 : decode cX7_isRuledOut 17 = .ok (.istore 4, 2) := by decide +kernel
theorem dX7_isRuledOut_19 : decode cX7_isRuledOut 19 = .ok (.aload_n 0, 1) := by decide +kernel
theorem dX7_isRuledOut_20 : decode cX7_isRuledOut 20 = .ok (.iload_n 3, 1) := by decide +kernel
theorem dX7_isRuledOut_21 : decode cX7_isRuledOut 21 = .ok (.iconst 1, 1) := by decide +kernel
theorem dX7_isRuledOut_22 : decode cX7_isRuledOut 22 = .ok (.iadd, 1) := by decide +kernel
theorem dX7_isRuledOut_23 : decode cX7_isRuledOut 23 = .ok (.invokevirtual 293, 3) := by decide +kernel
theorem dX7_isRuledOut_26 : decode cX7_isRuledOut 26 = .ok (.istore 5, 2) := by decide +kernel
theorem dX7_isRuledOut_28 : decode cX7_isRuledOut 28 = .ok (.iload 5, 2) := by decide +kernel
theorem dX7_isRuledOut_30 : decode cX7_isRuledOut 30 = .ok (.iload_n 1, 1) := by decide +kernel
theorem dX7_isRuledOut_31 : decode cX7_isRuledOut 31 = .ok (.if_icmp .ne 14, 3) := by decide +kernel
theorem dX7_isRuledOut_34 : decode cX7_isRuledOut 34 = .ok (.iload 4, 2) := by decide +kernel
theorem dX7_isRuledOut_36 : decode cX7_isRuledOut 36 = .ok (.iload_n 2, 1) := by decide +kernel
theorem dX7_isRuledOut_37 : decode cX7_isRuledOut 37 = .ok (.ishr, 1) := by decide +kernel
theorem dX7_isRuledOut_38 : decode cX7_isRuledOut 38 = .ok (.iconst 1, 1) := by decide +kernel
theorem dX7_isRuledOut_39 : decode cX7_isRuledOut 39 = .ok (.iand, 1) := by decide +kernel
theorem dX7_isRuledOut_40 : decode cX7_isRuledOut 40 = .ok (.ifCond .eq 5, 3) := by decide +kernel
theorem dX7_isRuledOut_43 : decode cX7_isRuledOut 43 = .ok (.iconst 1, 1) := by decide +kernel
theorem dX7_isRuledOut_44 : decode cX7_isRuledOut 44 = .ok (.ireturn, 1) := by decide +kernel
theorem dX7_isRuledOut_45 : decode cX7_isRuledOut 45 = .ok (.iload 5, 2) := by decide +kernel
theorem dX7_isRuledOut_47 : decode cX7_isRuledOut 47 = .ok (.iload_n 2, 1) := by decide +kernel
theorem dX7_isRuledOut_48 : decode cX7_isRuledOut 48 = .ok (.if_icmp .ne 14, 3) := by decide +kernel
theorem dX7_isRuledOut_51 : decode cX7_isRuledOut 51 = .ok (.iload 4, 2) := by decide +kernel
theorem dX7_isRuledOut_53 : decode cX7_isRuledOut 53 = .ok (.iload_n 1, 1) := by decide +kernel
theorem dX7_isRuledOut_54 : decode cX7_isRuledOut 54 = .ok (.ishr, 1) := by decide +kernel
theorem dX7_isRuledOut_55 : decode cX7_isRuledOut 55 = .ok (.iconst 1, 1) := by decide +kernel
theorem dX7_isRuledOut_56 : decode cX7_isRuledOut 56 = .ok (.iand, 1) := by decide +kernel
theorem dX7_isRuledOut_57 : decode cX7_isRuledOut 57 = .ok (.ifCond .eq 5, 3) := by decide +kernel
theorem dX7_isRuledOut_60 : decode cX7_isRuledOut 60 = .ok (.iconst 1, 1) := by decide +kernel
theorem dX7_isRuledOut_61 : decode cX7_isRuledOut 61 = .ok (.ireturn, 1) := by decide +kernel
theorem dX7_isRuledOut_62 : decode cX7_isRuledOut 62 = .ok (.iinc 3 2, 3) := by decide +kernel
theorem dX7_isRuledOut_65 : decode cX7_isRuledOut 65 = .ok (.goto (-63), 3) := by decide +kernel
theorem dX7_isRuledOut_68 : decode cX7_isRuledOut 68 = .ok (.iconst 0, 1) := by decide +kernel
theorem dX7_isRuledOut_69 : decode cX7_isRuledOut 69 = .ok (.ireturn, 1) := by decide +kernel
theorem dX7_cliques_0 : decode cX7_cliques 0 = .ok (.iconst 0, 1) := by decide +kernel
theorem dX7_cliques_1 : decode cX7_cliques 1 = .ok (.istore_n 1, 1) := by decide +kernel
theorem dX7_cliques_2 : decode cX7_cliques 2 = .ok (.iconst 0, 1) := by decide +kernel
theorem dX7_cliques_3 : decode cX7_cliques 3 = .ok (.istore_n 2, 1) := by decide +kernel
theorem dX7_cliques_4 : decode cX7_cliques 4 = .ok (.iload_n 2, 1) := by decide +kernel
theorem dX7_cliques_5 : decode cX7_cliques 5 = .ok (.bipush 12, 2) := by decide +kernel
theorem dX7_cliques_7 : decode cX7_cliques 7 = .ok (.if_icmp .ge 64, 3) := by decide +kernel
theorem dX7_cliques_10 : decode cX7_cliques 10 = .ok (.iconst 0, 1) := by decide +kernel
theorem dX7_cliques_11 : decode cX7_cliques 11 = .ok (.istore_n 3, 1) := by decide +kernel
theorem dX7_cliques_12 : decode cX7_cliques 12 = .ok (.iload_n 3, 1) := by decide +kernel
theorem dX7_cliques_13 : decode cX7_cliques 13 = .ok (.iload_n 2, 1) := by decide +kernel
theorem dX7_cliques_14 : decode cX7_cliques 14 = .ok (.if_icmp .ge 51, 3) := by decide +kernel
theorem dX7_cliques_17 : decode cX7_cliques 17 = .ok (.aload_n 0, 1) := by decide +kernel
theorem dX7_cliques_18 : decode cX7_cliques 18 = .ok (.iload_n 2, 1) := by decide +kernel
theorem dX7_cliques_19 : decode cX7_cliques 19 = .ok (.invokevirtual 215, 3) := by decide +kernel
theorem dX7_cliques_22 : decode cX7_cliques 22 = .ok (.iload_n 3, 1) := by decide +kernel
theorem dX7_cliques_23 : decode cX7_cliques 23 = .ok (.ishr, 1) := by decide +kernel
theorem dX7_cliques_24 : decode cX7_cliques 24 = .ok (.iconst 1, 1) := by decide +kernel
theorem dX7_cliques_25 : decode cX7_cliques 25 = .ok (.iand, 1) := by decide +kernel
theorem dX7_cliques_26 : decode cX7_cliques 26 = .ok (.ifCond .ne 6, 3) := by decide +kernel
theorem dX7_cliques_29 : decode cX7_cliques 29 = .ok (.goto 30, 3) := by decide +kernel
theorem dX7_cliques_32 : decode cX7_cliques 32 = .ok (.aload_n 0, 1) := by decide +kernel
theorem dX7_cliques_33 : decode cX7_cliques 33 = .ok (.iload_n 2, 1) := by decide +kernel
theorem dX7_cliques_34 : decode cX7_cliques 34 = .ok (.invokevirtual 215, 3) := by decide +kernel
theorem dX7_cliques_37 : decode cX7_cliques 37 = .ok (.aload_n 0, 1) := by decide +kernel
theorem dX7_cliques_38 : decode cX7_cliques 38 = .ok (.iload_n 3, 1) := by decide +kernel
theorem dX7_cliques_39 : decode cX7_cliques 39 = .ok (.invokevirtual 215, 3) := by decide +kernel
theorem dX7_cliques_42 : decode cX7_cliques 42 = .ok (.iand, 1) := by decide +kernel
theorem dX7_cliques_43 : decode cX7_cliques 43 = .ok (.iconst 1, 1) := by decide +kernel
theorem dX7_cliques_44 : decode cX7_cliques 44 = .ok (.iload_n 3, 1) := by decide +kernel
theorem dX7_cliques_45 : decode cX7_cliques 45 = .ok (.ishl, 1) := by decide +kernel
theorem dX7_cliques_46 : decode cX7_cliques 46 = .ok (.iconst 1, 1) := by decide +kernel
theorem dX7_cliques_47 : decode cX7_cliques 47 = .ok (.isub, 1) := by decide +kernel
theorem dX7_cliques_48 : decode cX7_cliques 48 = .ok (.iand, 1) := by decide +kernel
theorem dX7_cliques_49 : decode cX7_cliques 49 = .ok (.istore 4, 2) := by decide +kernel
theorem dX7_cliques_51 : decode cX7_cliques 51 = .ok (.iload_n 1, 1) := by decide +kernel
theorem dX7_cliques_52 : decode cX7_cliques 52 = .ok (.iload 4, 2) := by decide +kernel
theorem dX7_cliques_54 : decode cX7_cliques 54 = .ok (.invokestatic 184, 3) := by decide +kernel
theorem dX7_cliques_57 : decode cX7_cliques 57 = .ok (.iadd, 1) := by decide +kernel
theorem dX7_cliques_58 : decode cX7_cliques 58 = .ok (.istore_n 1, 1) := by decide +kernel
theorem dX7_cliques_59 : decode cX7_cliques 59 = .ok (.iinc 3 1, 3) := by decide +kernel
theorem dX7_cliques_62 : decode cX7_cliques 62 = .ok (.goto (-50), 3) := by decide +kernel
theorem dX7_cliques_65 : decode cX7_cliques 65 = .ok (.iinc 2 1, 3) := by decide +kernel
theorem dX7_cliques_68 : decode cX7_cliques 68 = .ok (.goto (-64), 3) := by decide +kernel
theorem dX7_cliques_71 : decode cX7_cliques 71 = .ok (.iload_n 1, 1) := by decide +kernel
theorem dX7_cliques_72 : decode cX7_cliques 72 = .ok (.ireturn, 1) := by decide +kernel
theorem dX7_nearest_0 : decode cX7_nearest 0 = .ok (.iconst 0, 1) := by decide +kernel
theorem dX7_nearest_1 : decode cX7_nearest 1 = .ok (.istore_n 1, 1) := by decide +kernel
theorem dX7_nearest_2 : decode cX7_nearest 2 = .ok (.iconst 1, 1) := by decide +kernel
theorem dX7_nearest_3 : decode cX7_nearest 3 = .ok (.istore_n 2, 1) := by decide +kernel
theorem dX7_nearest_4 : decode cX7_nearest 4 = .ok (.iload_n 2, 1) := by decide +kernel
theorem dX7_nearest_5 : decode cX7_nearest 5 = .ok (.bipush 12, 2) := by decide +kernel
theorem dX7_nearest_7 : decode cX7_nearest 7 = .ok (.if_icmp .ge 30, 3) := by decide +kernel
theorem dX7_nearest_10 : decode cX7_nearest 10 = .ok (.aload_n 0, 1) := by decide +kernel
theorem dX7_nearest_11 : decode cX7_nearest 11 = .ok (.iload_n 2, 1) := by decide +kernel
theorem dX7_nearest_12 : decode cX7_nearest 12 = .ok (.invokevirtual 215, 3) := by decide +kernel
theorem dX7_nearest_15 : decode cX7_nearest 15 = .ok (.invokestatic 184, 3) := by decide +kernel
theorem dX7_nearest_18 : decode cX7_nearest 18 = .ok (.aload_n 0, 1) := by decide +kernel
theorem dX7_nearest_19 : decode cX7_nearest 19 = .ok (.iload_n 1, 1) := by decide +kernel
theorem dX7_nearest_20 : decode cX7_nearest 20 = .ok (.invokevirtual 215, 3) := by decide +kernel
theorem dX7_nearest_23 : decode cX7_nearest 23 = .ok (.invokestatic 184, 3) := by decide +kernel
theorem dX7_nearest_26 : decode cX7_nearest 26 = .ok (.if_icmp .le 5, 3) := by decide +kernel
theorem dX7_nearest_29 : decode cX7_nearest 29 = .ok (.iload_n 2, 1) := by decide +kernel
theorem dX7_nearest_30 : decode cX7_nearest 30 = .ok (.istore_n 1, 1) := by decide +kernel
theorem dX7_nearest_31 : decode cX7_nearest 31 = .ok (.iinc 2 1, 3) := by decide +kernel
theorem dX7_nearest_34 : decode cX7_nearest 34 = .ok (.goto (-30), 3) := by decide +kernel
theorem dX7_nearest_37 : decode cX7_nearest 37 = .ok (.iload_n 1, 1) := by decide +kernel
theorem dX7_nearest_38 : decode cX7_nearest 38 = .ok (.ireturn, 1) := by decide +kernel
theorem dX7_likeTwos_0 : decode cX7_likeTwos 0 = .ok (.iconst 0, 1) := by decide +kernel
theorem dX7_likeTwos_1 : decode cX7_likeTwos 1 = .ok (.istore_n 1, 1) := by decide +kernel
theorem dX7_likeTwos_2 : decode cX7_likeTwos 2 = .ok (.iconst 0, 1) := by decide +kernel
theorem dX7_likeTwos_3 : decode cX7_likeTwos 3 = .ok (.istore_n 2, 1) := by decide +kernel
theorem dX7_likeTwos_4 : decode cX7_likeTwos 4 = .ok (.iload_n 2, 1) := by decide +kernel
theorem dX7_likeTwos_5 : decode cX7_likeTwos 5 = .ok (.bipush 12, 2) := by decide +kernel
theorem dX7_likeTwos_7 : decode cX7_likeTwos 7 = .ok (.if_icmp .ge 20, 3) := by decide +kernel
theorem dX7_likeTwos_10 : decode cX7_likeTwos 10 = .ok (.iload_n 1, 1) := by decide +kernel
theorem dX7_likeTwos_11 : decode cX7_likeTwos 11 = .ok (.aload_n 0, 1) := by decide +kernel
theorem dX7_likeTwos_12 : decode cX7_likeTwos 12 = .ok (.iload_n 2, 1) := by decide +kernel
theorem dX7_likeTwos_13 : decode cX7_likeTwos 13 = .ok (.invokevirtual 215, 3) := by decide +kernel
theorem dX7_likeTwos_16 : decode cX7_likeTwos 16 = .ok (.invokestatic 184, 3) := by decide +kernel
theorem dX7_likeTwos_19 : decode cX7_likeTwos 19 = .ok (.iadd, 1) := by decide +kernel
theorem dX7_likeTwos_20 : decode cX7_likeTwos 20 = .ok (.istore_n 1, 1) := by decide +kernel
theorem dX7_likeTwos_21 : decode cX7_likeTwos 21 = .ok (.iinc 2 1, 3) := by decide +kernel
theorem dX7_likeTwos_24 : decode cX7_likeTwos 24 = .ok (.goto (-20), 3) := by decide +kernel
theorem dX7_likeTwos_27 : decode cX7_likeTwos 27 = .ok (.iload_n 1, 1) := by decide +kernel
theorem dX7_likeTwos_28 : decode cX7_likeTwos 28 = .ok (.iconst 2, 1) := by decide +kernel
theorem dX7_likeTwos_29 : decode cX7_likeTwos 29 = .ok (.idiv, 1) := by decide +kernel
theorem dX7_likeTwos_30 : decode cX7_likeTwos 30 = .ok (.ireturn, 1) := by decide +kernel
theorem dX7_lowest_0 : decode cX7_lowest 0 = .ok (.iload_n 1, 1) := by decide +kernel
theorem dX7_lowest_1 : decode cX7_lowest 1 = .ok (.istore_n 3, 1) := by decide +kernel
theorem dX7_lowest_2 : decode cX7_lowest 2 = .ok (.iload_n 0, 1) := by decide +kernel
theorem dX7_lowest_3 : decode cX7_lowest 3 = .ok (.istore 4, 2) := by decide +kernel
theorem dX7_lowest_5 : decode cX7_lowest 5 = .ok (.iconst 0, 1) := by decide +kernel
theorem dX7_lowest_6 : decode cX7_lowest 6 = .ok (.istore 5, 2) := by decide +kernel
theorem dX7_lowest_8 : decode cX7_lowest 8 = .ok (.iload 5, 2) := by decide +kernel
theorem dX7_lowest_10 : decode cX7_lowest 10 = .ok (.bipush 64, 2) := by decide +kernel
theorem dX7_lowest_12 : decode cX7_lowest 12 = .ok (.if_icmp .ge 27, 3) := by decide +kernel
theorem dX7_lowest_15 : decode cX7_lowest 15 = .ok (.iload 4, 2) := by decide +kernel
theorem dX7_lowest_17 : decode cX7_lowest 17 = .ok (.ifCond .eq 22, 3) := by decide +kernel
theorem dX7_lowest_20 : decode cX7_lowest 20 = .ok (.iload_n 3, 1) := by decide +kernel
theorem dX7_lowest_21 : decode cX7_lowest 21 = .ok (.iload 4, 2) := by decide +kernel
theorem dX7_lowest_23 : decode cX7_lowest 23 = .ok (.irem, 1) := by decide +kernel
theorem dX7_lowest_24 : decode cX7_lowest 24 = .ok (.istore 6, 2) := by decide +kernel
theorem dX7_lowest_26 : decode cX7_lowest 26 = .ok (.iload 4, 2) := by decide +kernel
theorem dX7_lowest_28 : decode cX7_lowest 28 = .ok (.istore_n 3, 1) := by decide +kernel
theorem dX7_lowest_29 : decode cX7_lowest 29 = .ok (.iload 6, 2) := by decide +kernel
theorem dX7_lowest_31 : decode cX7_lowest 31 = .ok (.istore 4, 2) := by decide +kernel
theorem dX7_lowest_33 : decode cX7_lowest 33 = .ok (.iinc 5 1, 3) := by decide +kernel
theorem dX7_lowest_36 : decode cX7_lowest 36 = .ok (.goto (-28), 3) := by decide +kernel
theorem dX7_lowest_39 : decode cX7_lowest 39 = .ok (.iload_n 2, 1) := by decide +kernel
theorem dX7_lowest_40 : decode cX7_lowest 40 = .ok (.ifCond .ne 7, 3) := by decide +kernel
theorem dX7_lowest_43 : decode cX7_lowest 43 = .ok (.iload_n 0, 1) := by decide +kernel
theorem dX7_lowest_44 : decode cX7_lowest 44 = .ok (.goto 4, 3) := by decide +kernel
theorem dX7_lowest_47 : decode cX7_lowest 47 = .ok (.iload_n 1, 1) := by decide +kernel
theorem dX7_lowest_48 : decode cX7_lowest 48 = .ok (.istore 5, 2) := by decide +kernel
theorem dX7_lowest_50 : decode cX7_lowest 50 = .ok (.iload_n 3, 1) := by decide +kernel
theorem dX7_lowest_51 : decode cX7_lowest 51 = .ok (.ifCond .ne 9, 3) := by decide +kernel
theorem dX7_lowest_54 : decode cX7_lowest 54 = .ok (.iload 5, 2) := by decide +kernel
theorem dX7_lowest_56 : decode cX7_lowest 56 = .ok (.i2l, 1) := by decide +kernel
theorem dX7_lowest_57 : decode cX7_lowest 57 = .ok (.goto 8, 3) := by decide +kernel
theorem dX7_lowest_60 : decode cX7_lowest 60 = .ok (.iload 5, 2) := by decide +kernel
theorem dX7_lowest_62 : decode cX7_lowest 62 = .ok (.iload_n 3, 1) := by decide +kernel
theorem dX7_lowest_63 : decode cX7_lowest 63 = .ok (.idiv, 1) := by decide +kernel
theorem dX7_lowest_64 : decode cX7_lowest 64 = .ok (.i2l, 1) := by decide +kernel
theorem dX7_lowest_65 : decode cX7_lowest 65 = .ok (.lreturn, 1) := by decide +kernel
theorem dX7_firstOther_0 : decode cX7_firstOther 0 = .ok (.iconst 0, 1) := by decide +kernel
theorem dX7_firstOther_1 : decode cX7_firstOther 1 = .ok (.istore_n 2, 1) := by decide +kernel
theorem dX7_firstOther_2 : decode cX7_firstOther 2 = .ok (.iload_n 2, 1) := by decide +kernel
theorem dX7_firstOther_3 : decode cX7_firstOther 3 = .ok (.aload_n 0, 1) := by decide +kernel
theorem dX7_firstOther_4 : decode cX7_firstOther 4 = .ok (.getfield 228, 3) := by decide +kernel
theorem dX7_firstOther_7 : decode cX7_firstOther 7 = .ok (.if_icmp .ge 32, 3) := by decide +kernel
theorem dX7_firstOther_10 : decode cX7_firstOther 10 = .ok (.iload_n 2, 1) := by decide +kernel
theorem dX7_firstOther_11 : decode cX7_firstOther 11 = .ok (.bipush 12, 2) := by decide +kernel
theorem dX7_firstOther_13 : decode cX7_firstOther 13 = .ok (.if_icmp .ge 26, 3) := by decide +kernel
theorem dX7_firstOther_16 : decode cX7_firstOther 16 = .ok (.aload_n 0, 1) := by decide +kernel
theorem dX7_firstOther_17 : decode cX7_firstOther 17 = .ok (.iload_n 2, 1) := by decide +kernel
theorem dX7_firstOther_18 : decode cX7_firstOther 18 = .ok (.invokevirtual 293, 3) := by decide +kernel
theorem dX7_firstOther_21 : decode cX7_firstOther 21 = .ok (.aload_n 1, 1) := by decide +kernel
theorem dX7_firstOther_22 : decode cX7_firstOther 22 = .ok (.iconst 1, 1) := by decide +kernel
theorem dX7_firstOther_23 : decode cX7_firstOther 23 = .ok (.iload_n 2, 1) := by decide +kernel
theorem dX7_firstOther_24 : decode cX7_firstOther 24 = .ok (.ishl, 1) := by decide +kernel
theorem dX7_firstOther_25 : decode cX7_firstOther 25 = .ok (.invokevirtual 118, 3) := by decide +kernel
theorem dX7_firstOther_28 : decode cX7_firstOther 28 = .ok (.if_icmp .eq 5, 3) := by decide +kernel
theorem dX7_firstOther_31 : decode cX7_firstOther 31 = .ok (.iload_n 2, 1) := by decide +kernel
theorem dX7_firstOther_32 : decode cX7_firstOther 32 = .ok (.ireturn, 1) := by decide +kernel
theorem dX7_firstOther_33 : decode cX7_firstOther 33 = .ok (.iinc 2 1, 3) := by decide +kernel
theorem dX7_firstOther_36 : decode cX7_firstOther 36 = .ok (.goto (-34), 3) := by decide +kernel
theorem dX7_firstOther_39 : decode cX7_firstOther 39 = .ok (.iconst (-1), 1) := by decide +kernel
theorem dX7_firstOther_40 : decode cX7_firstOther 40 = .ok (.ireturn, 1) := by decide +kernel
theorem dX7_fittingKinds_0 : decode cX7_fittingKinds 0 = .ok (.iconst 0, 1) := by decide +kernel
theorem dX7_fittingKinds_1 : decode cX7_fittingKinds 1 = .ok (.istore_n 2, 1) := by decide +kernel
theorem dX7_fittingKinds_2 : decode cX7_fittingKinds 2 = .ok (.iconst 0, 1) := by decide +kernel
theorem dX7_fittingKinds_3 : decode cX7_fittingKinds 3 = .ok (.istore_n 3, 1) := by decide +kernel
theorem dX7_fittingKinds_4 : decode cX7_fittingKinds 4 = .ok (.iload_n 3, 1) := by decide +kernel
theorem dX7_fittingKinds_5 : decode cX7_fittingKinds 5 = .ok (.bipush 6, 2) := by decide +kernel
theorem dX7_fittingKinds_7 : decode cX7_fittingKinds 7 = .ok (.if_icmp .ge 29, 3) := by decide +kernel
theorem dX7_fittingKinds_10 : decode cX7_fittingKinds 10 = .ok (.aload_n 1, 1) := by decide +kernel
theorem dX7_fittingKinds_11 : decode cX7_fittingKinds 11 = .ok (.iload_n 3, 1) := by decide +kernel
theorem dX7_fittingKinds_12 : decode cX7_fittingKinds 12 = .ok (.putfield 313, 3) := by decide +kernel
theorem dX7_fittingKinds_15 : decode cX7_fittingKinds 15 = .ok (.aload_n 0, 1) := by decide +kernel
theorem dX7_fittingKinds_16 : decode cX7_fittingKinds 16 = .ok (.aload_n 1, 1) := by decide +kernel
theorem dX7_fittingKinds_17 : decode cX7_fittingKinds 17 = .ok (.invokestatic 231, 3) := by decide +kernel
theorem dX7_fittingKinds_20 : decode cX7_fittingKinds 20 = .ok (.iconst (-1), 1) := by decide +kernel
theorem dX7_fittingKinds_21 : decode cX7_fittingKinds 21 = .ok (.if_icmp .ne 9, 3) := by decide +kernel
theorem dX7_fittingKinds_24 : decode cX7_fittingKinds 24 = .ok (.iload_n 2, 1) := by decide +kernel
theorem dX7_fittingKinds_25 : decode cX7_fittingKinds 25 = .ok (.iconst 1, 1) := by decide +kernel
theorem dX7_fittingKinds_26 : decode cX7_fittingKinds 26 = .ok (.iload_n 3, 1) := by decide +kernel
theorem dX7_fittingKinds_27 : decode cX7_fittingKinds 27 = .ok (.ishl, 1) := by decide +kernel
theorem dX7_fittingKinds_28 : decode cX7_fittingKinds 28 = .ok (.ior, 1) := by decide +kernel
theorem dX7_fittingKinds_29 : decode cX7_fittingKinds 29 = .ok (.istore_n 2, 1) := by decide +kernel
theorem dX7_fittingKinds_30 : decode cX7_fittingKinds 30 = .ok (.iinc 3 1, 3) := by decide +kernel
theorem dX7_fittingKinds_33 : decode cX7_fittingKinds 33 = .ok (.goto (-29), 3) := by decide +kernel
theorem dX7_fittingKinds_36 : decode cX7_fittingKinds 36 = .ok (.iload_n 2, 1) := by decide +kernel
theorem dX7_fittingKinds_37 : decode cX7_fittingKinds 37 = .ok (.ireturn, 1) := by decide +kernel
theorem dX7_fittingNumbers_0 : decode cX7_fittingNumbers 0 = .ok (.iconst 0, 1) := by decide +kernel
theorem dX7_fittingNumbers_1 : decode cX7_fittingNumbers 1 = .ok (.istore_n 2, 1) := by decide +kernel
theorem dX7_fittingNumbers_2 : decode cX7_fittingNumbers 2 = .ok (.iconst 0, 1) := by decide +kernel
theorem dX7_fittingNumbers_3 : decode cX7_fittingNumbers 3 = .ok (.istore_n 3, 1) := by decide +kernel
theorem dX7_fittingNumbers_4 : decode cX7_fittingNumbers 4 = .ok (.iload_n 3, 1) := by decide +kernel
theorem dX7_fittingNumbers_5 : decode cX7_fittingNumbers 5 = .ok (.bipush 9, 2) := by decide +kernel
theorem dX7_fittingNumbers_7 : decode cX7_fittingNumbers 7 = .ok (.if_icmp .gt 29, 3) := by decide +kernel
theorem dX7_fittingNumbers_10 : decode cX7_fittingNumbers 10 = .ok (.aload_n 1, 1) := by decide +kernel
theorem dX7_fittingNumbers_11 : decode cX7_fittingNumbers 11 = .ok (.iload_n 3, 1) := by decide +kernel
theorem dX7_fittingNumbers_12 : decode cX7_fittingNumbers 12 = .ok (.putfield 314, 3) := by decide +kernel
theorem dX7_fittingNumbers_15 : decode cX7_fittingNumbers 15 = .ok (.aload_n 0, 1) := by decide +kernel
theorem dX7_fittingNumbers_16 : decode cX7_fittingNumbers 16 = .ok (.aload_n 1, 1) := by decide +kernel
theorem dX7_fittingNumbers_17 : decode cX7_fittingNumbers 17 = .ok (.invokestatic 231, 3) := by decide +kernel
theorem dX7_fittingNumbers_20 : decode cX7_fittingNumbers 20 = .ok (.iconst (-1), 1) := by decide +kernel
theorem dX7_fittingNumbers_21 : decode cX7_fittingNumbers 21 = .ok (.if_icmp .ne 9, 3) := by decide +kernel
theorem dX7_fittingNumbers_24 : decode cX7_fittingNumbers 24 = .ok (.iload_n 2, 1) := by decide +kernel
theorem dX7_fittingNumbers_25 : decode cX7_fittingNumbers 25 = .ok (.iconst 1, 1) := by decide +kernel
theorem dX7_fittingNumbers_26 : decode cX7_fittingNumbers 26 = .ok (.iload_n 3, 1) := by decide +kernel
theorem dX7_fittingNumbers_27 : decode cX7_fittingNumbers 27 = .ok (.ishl, 1) := by decide +kernel
theorem dX7_fittingNumbers_28 : decode cX7_fittingNumbers 28 = .ok (.ior, 1) := by decide +kernel
theorem dX7_fittingNumbers_29 : decode cX7_fittingNumbers 29 = .ok (.istore_n 2, 1) := by decide +kernel
theorem dX7_fittingNumbers_30 : decode cX7_fittingNumbers 30 = .ok (.iinc 3 1, 3) := by decide +kernel
theorem dX7_fittingNumbers_33 : decode cX7_fittingNumbers 33 = .ok (.goto (-29), 3) := by decide +kernel
theorem dX7_fittingNumbers_36 : decode cX7_fittingNumbers 36 = .ok (.iload_n 2, 1) := by decide +kernel
theorem dX7_fittingNumbers_37 : decode cX7_fittingNumbers 37 = .ok (.ireturn, 1) := by decide +kernel
theorem dX7_fittingDays_0 : decode cX7_fittingDays 0 = .ok (.iconst 0, 1) := by decide +kernel
theorem dX7_fittingDays_1 : decode cX7_fittingDays 1 = .ok (.istore_n 2, 1) := by decide +kernel
theorem dX7_fittingDays_2 : decode cX7_fittingDays 2 = .ok (.iconst 0, 1) := by decide +kernel
theorem dX7_fittingDays_3 : decode cX7_fittingDays 3 = .ok (.istore_n 3, 1) := by decide +kernel
theorem dX7_fittingDays_4 : decode cX7_fittingDays 4 = .ok (.iload_n 3, 1) := by decide +kernel
theorem dX7_fittingDays_5 : decode cX7_fittingDays 5 = .ok (.bipush 100, 2) := by decide +kernel
theorem dX7_fittingDays_7 : decode cX7_fittingDays 7 = .ok (.if_icmp .ge 26, 3) := by decide +kernel
theorem dX7_fittingDays_10 : decode cX7_fittingDays 10 = .ok (.aload_n 1, 1) := by decide +kernel
theorem dX7_fittingDays_11 : decode cX7_fittingDays 11 = .ok (.iload_n 3, 1) := by decide +kernel
theorem dX7_fittingDays_12 : decode cX7_fittingDays 12 = .ok (.putfield 315, 3) := by decide +kernel
theorem dX7_fittingDays_15 : decode cX7_fittingDays 15 = .ok (.aload_n 0, 1) := by decide +kernel
theorem dX7_fittingDays_16 : decode cX7_fittingDays 16 = .ok (.aload_n 1, 1) := by decide +kernel
theorem dX7_fittingDays_17 : decode cX7_fittingDays 17 = .ok (.invokestatic 231, 3) := by decide +kernel
theorem dX7_fittingDays_20 : decode cX7_fittingDays 20 = .ok (.iconst (-1), 1) := by decide +kernel
theorem dX7_fittingDays_21 : decode cX7_fittingDays 21 = .ok (.if_icmp .ne 6, 3) := by decide +kernel
theorem dX7_fittingDays_24 : decode cX7_fittingDays 24 = .ok (.iinc 2 1, 3) := by decide +kernel
theorem dX7_fittingDays_27 : decode cX7_fittingDays 27 = .ok (.iinc 3 1, 3) := by decide +kernel
theorem dX7_fittingDays_30 : decode cX7_fittingDays 30 = .ok (.goto (-26), 3) := by decide +kernel
theorem dX7_fittingDays_33 : decode cX7_fittingDays 33 = .ok (.iload_n 2, 1) := by decide +kernel
theorem dX7_fittingDays_34 : decode cX7_fittingDays 34 = .ok (.ireturn, 1) := by decide +kernel
theorem dX7_firstFittingDay_0 : decode cX7_firstFittingDay 0 = .ok (.iconst 0, 1) := by decide +kernel
theorem dX7_firstFittingDay_1 : decode cX7_firstFittingDay 1 = .ok (.istore_n 2, 1) := by decide +kernel
theorem dX7_firstFittingDay_2 : decode cX7_firstFittingDay 2 = .ok (.iload_n 2, 1) := by decide +kernel
theorem dX7_firstFittingDay_3 : decode cX7_firstFittingDay 3 = .ok (.bipush 100, 2) := by decide +kernel
theorem dX7_firstFittingDay_5 : decode cX7_firstFittingDay 5 = .ok (.if_icmp .ge 25, 3) := by decide +kernel
theorem dX7_firstFittingDay_8 : decode cX7_firstFittingDay 8 = .ok (.aload_n 1, 1) := by decide +kernel
theorem dX7_firstFittingDay_9 : decode cX7_firstFittingDay 9 = .ok (.iload_n 2, 1) := by decide +kernel
theorem dX7_firstFittingDay_10 : decode cX7_firstFittingDay 10 = .ok (.putfield 315, 3) := by decide +kernel
theorem dX7_firstFittingDay_13 : decode cX7_firstFittingDay 13 = .ok (.aload_n 0, 1) := by decide +kernel
theorem dX7_firstFittingDay_14 : decode cX7_firstFittingDay 14 = .ok (.aload_n 1, 1) := by decide +kernel
theorem dX7_firstFittingDay_15 : decode cX7_firstFittingDay 15 = .ok (.invokestatic 231, 3) := by decide +kernel
theorem dX7_firstFittingDay_18 : decode cX7_firstFittingDay 18 = .ok (.iconst (-1), 1) := by decide +kernel
theorem dX7_firstFittingDay_19 : decode cX7_firstFittingDay 19 = .ok (.if_icmp .ne 5, 3) := by decide +kernel
theorem dX7_firstFittingDay_22 : decode cX7_firstFittingDay 22 = .ok (.iload_n 2, 1) := by decide +kernel
theorem dX7_firstFittingDay_23 : decode cX7_firstFittingDay 23 = .ok (.ireturn, 1) := by decide +kernel
theorem dX7_firstFittingDay_24 : decode cX7_firstFittingDay 24 = .ok (.iinc 2 1, 3) := by decide +kernel
theorem dX7_firstFittingDay_27 : decode cX7_firstFittingDay 27 = .ok (.goto (-25), 3) := by decide +kernel
theorem dX7_firstFittingDay_30 : decode cX7_firstFittingDay 30 = .ok (.iconst (-1), 1) := by decide +kernel
theorem dX7_firstFittingDay_31 : decode cX7_firstFittingDay 31 = .ok (.ireturn, 1) := by decide +kernel
theorem dX7_fittingThings_0 : decode cX7_fittingThings 0 = .ok (.iconst 0, 1) := by decide +kernel
theorem dX7_fittingThings_1 : decode cX7_fittingThings 1 = .ok (.istore_n 2, 1) := by decide +kernel
theorem dX7_fittingThings_2 : decode cX7_fittingThings 2 = .ok (.aload_n 1, 1) := by decide +kernel
theorem dX7_fittingThings_3 : decode cX7_fittingThings 3 = .ok (.getfield 171, 3) := by decide +kernel
theorem dX7_fittingThings_6 : decode cX7_fittingThings 6 = .ok (.istore_n 3, 1) := by decide +kernel
theorem dX7_fittingThings_7 : decode cX7_fittingThings 7 = .ok (.iconst 0, 1) := by decide +kernel
theorem dX7_fittingThings_8 : decode cX7_fittingThings 8 = .ok (.istore 4, 2) := by decide +kernel
theorem dX7_fittingThings_10 : decode cX7_fittingThings 10 = .ok (.iload 4, 2) := by decide +kernel
theorem dX7_fittingThings_12 : decode cX7_fittingThings 12 = .ok (.bipush 12, 2) := by decide +kernel
theorem dX7_fittingThings_14 : decode cX7_fittingThings 14 = .ok (.if_icmp .ge 35, 3) := by decide +kernel
theorem dX7_fittingThings_17 : decode cX7_fittingThings 17 = .ok (.aload_n 1, 1) := by decide +kernel
theorem dX7_fittingThings_18 : decode cX7_fittingThings 18 = .ok (.iload_n 3, 1) := by decide +kernel
theorem dX7_fittingThings_19 : decode cX7_fittingThings 19 = .ok (.iconst 1, 1) := by decide +kernel
theorem dX7_fittingThings_20 : decode cX7_fittingThings 20 = .ok (.iload 4, 2) := by decide +kernel
theorem dX7_fittingThings_22 : decode cX7_fittingThings 22 = .ok (.ishl, 1) := by decide +kernel
theorem dX7_fittingThings_23 : decode cX7_fittingThings 23 = .ok (.ixor, 1) := by decide +kernel
theorem dX7_fittingThings_24 : decode cX7_fittingThings 24 = .ok (.putfield 171, 3) := by decide +kernel
theorem dX7_fittingThings_27 : decode cX7_fittingThings 27 = .ok (.aload_n 0, 1) := by decide +kernel
theorem dX7_fittingThings_28 : decode cX7_fittingThings 28 = .ok (.aload_n 1, 1) := by decide +kernel
theorem dX7_fittingThings_29 : decode cX7_fittingThings 29 = .ok (.invokestatic 231, 3) := by decide +kernel
theorem dX7_fittingThings_32 : decode cX7_fittingThings 32 = .ok (.iconst (-1), 1) := by decide +kernel
theorem dX7_fittingThings_33 : decode cX7_fittingThings 33 = .ok (.if_icmp .ne 10, 3) := by decide +kernel
theorem dX7_fittingThings_36 : decode cX7_fittingThings 36 = .ok (.iload_n 2, 1) := by decide +kernel
theorem dX7_fittingThings_37 : decode cX7_fittingThings 37 = .ok (.iconst 1, 1) := by decide +kernel
theorem dX7_fittingThings_38 : decode cX7_fittingThings 38 = .ok (.iload 4, 2) := by decide +kernel
theorem dX7_fittingThings_40 : decode cX7_fittingThings 40 = .ok (.ishl, 1) := by decide +kernel
theorem dX7_fittingThings_41 : decode cX7_fittingThings 41 = .ok (.ior, 1) := by decide +kernel
theorem dX7_fittingThings_42 : decode cX7_fittingThings 42 = .ok (.istore_n 2, 1) := by decide +kernel
theorem dX7_fittingThings_43 : decode cX7_fittingThings 43 = .ok (.iinc 4 1, 3) := by decide +kernel
theorem dX7_fittingThings_46 : decode cX7_fittingThings 46 = .ok (.goto (-36), 3) := by decide +kernel
theorem dX7_fittingThings_49 : decode cX7_fittingThings 49 = .ok (.iload_n 2, 1) := by decide +kernel
theorem dX7_fittingThings_50 : decode cX7_fittingThings 50 = .ok (.ireturn, 1) := by decide +kernel
theorem dX7_fittingTexts_0 : decode cX7_fittingTexts 0 = .ok (.iconst 0, 1) := by decide +kernel
theorem dX7_fittingTexts_1 : decode cX7_fittingTexts 1 = .ok (.istore_n 3, 1) := by decide +kernel
theorem dX7_fittingTexts_2 : decode cX7_fittingTexts 2 = .ok (.iconst 0, 1) := by decide +kernel
theorem dX7_fittingTexts_3 : decode cX7_fittingTexts 3 = .ok (.istore 4, 2) := by decide +kernel
theorem dX7_fittingTexts_5 : decode cX7_fittingTexts 5 = .ok (.iload 4, 2) := by decide +kernel
theorem dX7_fittingTexts_7 : decode cX7_fittingTexts 7 = .ok (.aload_n 0, 1) := by decide +kernel
theorem dX7_fittingTexts_8 : decode cX7_fittingTexts 8 = .ok (.getfield 60, 3) := by decide +kernel
theorem dX7_fittingTexts_11 : decode cX7_fittingTexts 11 = .ok (.if_icmp .ge 42, 3) := by decide +kernel
theorem dX7_fittingTexts_14 : decode cX7_fittingTexts 14 = .ok (.iload 4, 2) := by decide +kernel
theorem dX7_fittingTexts_16 : decode cX7_fittingTexts 16 = .ok (.bipush 6, 2) := by decide +kernel
theorem dX7_fittingTexts_18 : decode cX7_fittingTexts 18 = .ok (.if_icmp .ge 35, 3) := by decide +kernel
theorem dX7_fittingTexts_21 : decode cX7_fittingTexts 21 = .ok (.aload_n 2, 1) := by decide +kernel
theorem dX7_fittingTexts_22 : decode cX7_fittingTexts 22 = .ok (.aload_n 0, 1) := by decide +kernel
theorem dX7_fittingTexts_23 : decode cX7_fittingTexts 23 = .ok (.iload 4, 2) := by decide +kernel
theorem dX7_fittingTexts_25 : decode cX7_fittingTexts 25 = .ok (.invokevirtual 67, 3) := by decide +kernel
theorem dX7_fittingTexts_28 : decode cX7_fittingTexts 28 = .ok (.putfield 318, 3) := by decide +kernel
theorem dX7_fittingTexts_31 : decode cX7_fittingTexts 31 = .ok (.aload_n 1, 1) := by decide +kernel
theorem dX7_fittingTexts_32 : decode cX7_fittingTexts 32 = .ok (.aload_n 2, 1) := by decide +kernel
theorem dX7_fittingTexts_33 : decode cX7_fittingTexts 33 = .ok (.invokestatic 231, 3) := by decide +kernel
theorem dX7_fittingTexts_36 : decode cX7_fittingTexts 36 = .ok (.iconst (-1), 1) := by decide +kernel
theorem dX7_fittingTexts_37 : decode cX7_fittingTexts 37 = .ok (.if_icmp .ne 10, 3) := by decide +kernel
theorem dX7_fittingTexts_40 : decode cX7_fittingTexts 40 = .ok (.iload_n 3, 1) := by decide +kernel
theorem dX7_fittingTexts_41 : decode cX7_fittingTexts 41 = .ok (.iconst 1, 1) := by decide +kernel
theorem dX7_fittingTexts_42 : decode cX7_fittingTexts 42 = .ok (.iload 4, 2) := by decide +kernel
theorem dX7_fittingTexts_44 : decode cX7_fittingTexts 44 = .ok (.ishl, 1) := by decide +kernel
theorem dX7_fittingTexts_45 : decode cX7_fittingTexts 45 = .ok (.ior, 1) := by decide +kernel
theorem dX7_fittingTexts_46 : decode cX7_fittingTexts 46 = .ok (.istore_n 3, 1) := by decide +kernel
theorem dX7_fittingTexts_47 : decode cX7_fittingTexts 47 = .ok (.iinc 4 1, 3) := by decide +kernel
theorem dX7_fittingTexts_50 : decode cX7_fittingTexts 50 = .ok (.goto (-45), 3) := by decide +kernel
theorem dX7_fittingTexts_53 : decode cX7_fittingTexts 53 = .ok (.iload_n 3, 1) := by decide +kernel
theorem dX7_fittingTexts_54 : decode cX7_fittingTexts 54 = .ok (.ireturn, 1) := by decide +kernel
theorem dX7_fittingAskers_0 : decode cX7_fittingAskers 0 = .ok (.iconst 0, 1) := by decide +kernel
theorem dX7_fittingAskers_1 : decode cX7_fittingAskers 1 = .ok (.istore_n 2, 1) := by decide +kernel
theorem dX7_fittingAskers_2 : decode cX7_fittingAskers 2 = .ok (.iconst 0, 1) := by decide +kernel
theorem dX7_fittingAskers_3 : decode cX7_fittingAskers 3 = .ok (.istore_n 3, 1) := by decide +kernel
theorem dX7_fittingAskers_4 : decode cX7_fittingAskers 4 = .ok (.iload_n 3, 1) := by decide +kernel
theorem dX7_fittingAskers_5 : decode cX7_fittingAskers 5 = .ok (.iconst 5, 1) := by decide +kernel
theorem dX7_fittingAskers_6 : decode cX7_fittingAskers 6 = .ok (.if_icmp .ge 37, 3) := by decide +kernel
theorem dX7_fittingAskers_9 : decode cX7_fittingAskers 9 = .ok (.aload_n 0, 1) := by decide +kernel
theorem dX7_fittingAskers_10 : decode cX7_fittingAskers 10 = .ok (.iload_n 3, 1) := by decide +kernel
theorem dX7_fittingAskers_11 : decode cX7_fittingAskers 11 = .ok (.invokevirtual 108, 3) := by decide +kernel
theorem dX7_fittingAskers_14 : decode cX7_fittingAskers 14 = .ok (.astore 4, 2) := by decide +kernel
theorem dX7_fittingAskers_16 : decode cX7_fittingAskers 16 = .ok (.aload 4, 2) := by decide +kernel
theorem dX7_fittingAskers_18 : decode cX7_fittingAskers 18 = .ok (.ifnull 19, 3) := by decide +kernel
theorem dX7_fittingAskers_21 : decode cX7_fittingAskers 21 = .ok (.aload_n 1, 1) := by decide +kernel
theorem dX7_fittingAskers_22 : decode cX7_fittingAskers 22 = .ok (.aload 4, 2) := by decide +kernel
theorem dX7_fittingAskers_24 : decode cX7_fittingAskers 24 = .ok (.invokestatic 231, 3) := by decide +kernel
theorem dX7_fittingAskers_27 : decode cX7_fittingAskers 27 = .ok (.iconst (-1), 1) := by decide +kernel
theorem dX7_fittingAskers_28 : decode cX7_fittingAskers 28 = .ok (.if_icmp .ne 9, 3) := by decide +kernel
theorem dX7_fittingAskers_31 : decode cX7_fittingAskers 31 = .ok (.iload_n 2, 1) := by decide +kernel
theorem dX7_fittingAskers_32 : decode cX7_fittingAskers 32 = .ok (.iconst 1, 1) := by decide +kernel
theorem dX7_fittingAskers_33 : decode cX7_fittingAskers 33 = .ok (.iload_n 3, 1) := by decide +kernel
theorem dX7_fittingAskers_34 : decode cX7_fittingAskers 34 = .ok (.ishl, 1) := by decide +kernel
theorem dX7_fittingAskers_35 : decode cX7_fittingAskers 35 = .ok (.ior, 1) := by decide +kernel
theorem dX7_fittingAskers_36 : decode cX7_fittingAskers 36 = .ok (.istore_n 2, 1) := by decide +kernel
theorem dX7_fittingAskers_37 : decode cX7_fittingAskers 37 = .ok (.iinc 3 1, 3) := by decide +kernel
theorem dX7_fittingAskers_40 : decode cX7_fittingAskers 40 = .ok (.goto (-36), 3) := by decide +kernel
theorem dX7_fittingAskers_43 : decode cX7_fittingAskers 43 = .ok (.iload_n 2, 1) := by decide +kernel
theorem dX7_fittingAskers_44 : decode cX7_fittingAskers 44 = .ok (.ireturn, 1) := by decide +kernel
theorem dX7_hadByDrawing_0 : decode cX7_hadByDrawing 0 = .ok (.iload_n 1, 1) := by decide +kernel
theorem dX7_hadByDrawing_1 : decode cX7_hadByDrawing 1 = .ok (.istore_n 3, 1) := by decide +kernel
theorem dX7_hadByDrawing_2 : decode cX7_hadByDrawing 2 = .ok (.iconst 0, 1) := by decide +kernel
theorem dX7_hadByDrawing_3 : decode cX7_hadByDrawing 3 = .ok (.istore 4, 2) := by decide +kernel
theorem dX7_hadByDrawing_5 : decode cX7_hadByDrawing 5 = .ok (.iload 4, 2) := by decide +kernel
theorem dX7_hadByDrawing_7 : decode cX7_hadByDrawing 7 = .ok (.iload_n 2, 1) := by decide +kernel
theorem dX7_hadByDrawing_8 : decode cX7_hadByDrawing 8 = .ok (.if_icmp .ge 43, 3) := by decide +kernel
theorem dX7_hadByDrawing_11 : decode cX7_hadByDrawing 11 = .ok (.iload_n 3, 1) := by decide +kernel
theorem dX7_hadByDrawing_12 : decode cX7_hadByDrawing 12 = .ok (.ldc_w 321, 3) := by decide +kernel
theorem dX7_hadByDrawing_15 : decode cX7_hadByDrawing 15 = .ok (.imul, 1) := by decide +kernel
theorem dX7_hadByDrawing_16 : decode cX7_hadByDrawing 16 = .ok (.sipush 12345, 3) := by decide +kernel
theorem dX7_hadByDrawing_19 : decode cX7_hadByDrawing 19 = .ok (.iadd, 1) := by decide +kernel
theorem dX7_hadByDrawing_20 : decode cX7_hadByDrawing 20 = .ok (.istore_n 3, 1) := by decide +kernel
theorem dX7_hadByDrawing_21 : decode cX7_hadByDrawing 21 = .ok (.aload_n 0, 1) := by decide +kernel
theorem dX7_hadByDrawing_22 : decode cX7_hadByDrawing 22 = .ok (.iconst 1, 1) := by decide +kernel
theorem dX7_hadByDrawing_23 : decode cX7_hadByDrawing 23 = .ok (.iload_n 3, 1) := by decide +kernel
theorem dX7_hadByDrawing_24 : decode cX7_hadByDrawing 24 = .ok (.bipush 9, 2) := by decide +kernel
theorem dX7_hadByDrawing_26 : decode cX7_hadByDrawing 26 = .ok (.iushr, 1) := by decide +kernel
theorem dX7_hadByDrawing_27 : decode cX7_hadByDrawing 27 = .ok (.bipush 12, 2) := by decide +kernel
theorem dX7_hadByDrawing_29 : decode cX7_hadByDrawing 29 = .ok (.irem, 1) := by decide +kernel
theorem dX7_hadByDrawing_30 : decode cX7_hadByDrawing 30 = .ok (.ishl, 1) := by decide +kernel
theorem dX7_hadByDrawing_31 : decode cX7_hadByDrawing 31 = .ok (.invokevirtual 140, 3) := by decide +kernel
theorem dX7_hadByDrawing_34 : decode cX7_hadByDrawing 34 = .ok (.pop, 1) := by decide +kernel
theorem dX7_hadByDrawing_35 : decode cX7_hadByDrawing 35 = .ok (.aload_n 0, 1) := by decide +kernel
theorem dX7_hadByDrawing_36 : decode cX7_hadByDrawing 36 = .ok (.dup, 1) := by decide +kernel
theorem dX7_hadByDrawing_37 : decode cX7_hadByDrawing 37 = .ok (.getfield 315, 3) := by decide +kernel
theorem dX7_hadByDrawing_40 : decode cX7_hadByDrawing 40 = .ok (.iconst 1, 1) := by decide +kernel
theorem dX7_hadByDrawing_41 : decode cX7_hadByDrawing 41 = .ok (.iadd, 1) := by decide +kernel
theorem dX7_hadByDrawing_42 : decode cX7_hadByDrawing 42 = .ok (.putfield 315, 3) := by decide +kernel
theorem dX7_hadByDrawing_45 : decode cX7_hadByDrawing 45 = .ok (.iinc 4 1, 3) := by decide +kernel
theorem dX7_hadByDrawing_48 : decode cX7_hadByDrawing 48 = .ok (.goto (-43), 3) := by decide +kernel
theorem dX7_hadByDrawing_51 : decode cX7_hadByDrawing 51 = .ok (.aload_n 0, 1) := by decide +kernel
theorem dX7_hadByDrawing_52 : decode cX7_hadByDrawing 52 = .ok (.getfield 174, 3) := by decide +kernel
theorem dX7_hadByDrawing_55 : decode cX7_hadByDrawing 55 = .ok (.invokestatic 184, 3) := by decide +kernel
theorem dX7_hadByDrawing_58 : decode cX7_hadByDrawing 58 = .ok (.ireturn, 1) := by decide +kernel
theorem dX8_in_0 : decode cX8_in 0 = .ok (.lload_n 0, 1) := by decide +kernel
theorem dX8_in_1 : decode cX8_in 1 = .ok (.lload_n 2, 1) := by decide +kernel
theorem dX8_in_2 : decode cX8_in 2 = .ok (.lcmp, 1) := by decide +kernel
theorem dX8_in_3 : decode cX8_in 3 = .ok (.ifCond .lt 14, 3) := by decide +kernel
theorem dX8_in_6 : decode cX8_in 6 = .ok (.lload_n 0, 1) := by decide +kernel
theorem dX8_in_7 : decode cX8_in 7 = .ok (.lload 4, 2) := by decide +kernel
theorem dX8_in_9 : decode cX8_in 9 = .ok (.lcmp, 1) := by decide +kernel
theorem dX8_in_10 : decode cX8_in 10 = .ok (.ifCond .gt 7, 3) := by decide +kernel
theorem dX8_in_13 : decode cX8_in 13 = .ok (.iconst 1, 1) := by decide +kernel
theorem dX8_in_14 : decode cX8_in 14 = .ok (.goto 4, 3) := by decide +kernel
theorem dX8_in_17 : decode cX8_in 17 = .ok (.iconst 0, 1) := by decide +kernel
theorem dX8_in_18 : decode cX8_in 18 = .ok (.ireturn, 1) := by decide +kernel
theorem dX8_within_0 : decode cX8_within 0 = .ok (.iload_n 0, 1) := by decide +kernel
theorem dX8_within_1 : decode cX8_within 1 = .ok (.iload_n 1, 1) := by decide +kernel
theorem dX8_within_2 : decode cX8_within 2 = .ok (.if_icmp .ge 7, 3) := by decide +kernel
theorem dX8_within_5 : decode cX8_within 5 = .ok (.iload_n 1, 1) := by decide +kernel
theorem dX8_within_6 : decode cX8_within 6 = .ok (.goto 13, 3) := by decide +kernel
theorem dX8_within_9 : decode cX8_within 9 = .ok (.iload_n 0, 1) := by decide +kernel
theorem dX8_within_10 : decode cX8_within 10 = .ok (.iload_n 2, 1) := by decide +kernel
theorem dX8_within_11 : decode cX8_within 11 = .ok (.if_icmp .le 7, 3) := by decide +kernel
theorem dX8_within_14 : decode cX8_within 14 = .ok (.iload_n 2, 1) := by decide +kernel
theorem dX8_within_15 : decode cX8_within 15 = .ok (.goto 4, 3) := by decide +kernel
theorem dX8_within_18 : decode cX8_within 18 = .ok (.iload_n 0, 1) := by decide +kernel
theorem dX8_within_19 : decode cX8_within 19 = .ok (.ireturn, 1) := by decide +kernel
theorem dX8_init_0 : decode cX8_init 0 = .ok (.aload_n 0, 1) := by decide +kernel
theorem dX8_init_1 : decode cX8_init 1 = .ok (.invokespecial 7, 3) := by decide +kernel
theorem dX8_init_4 : decode cX8_init 4 = .ok (.aload_n 0, 1) := by decide +kernel
theorem dX8_init_5 : decode cX8_init 5 = .ok (.sipush 960, 3) := by decide +kernel
theorem dX8_init_8 : decode cX8_init 8 = .ok (.newarray .int, 2) := by decide +kernel
theorem dX8_init_10 : decode cX8_init 10 = .ok (.putfield 13, 3) := by decide +kernel
theorem dX8_init_13 : decode cX8_init 13 = .ok (.aload_n 0, 1) := by decide +kernel
theorem dX8_init_14 : decode cX8_init 14 = .ok (.bipush 6, 2) := by decide +kernel
theorem dX8_init_16 : decode cX8_init 16 = .ok (.newarray .int, 2) := by decide +kernel
theorem dX8_init_18 : decode cX8_init 18 = .ok (.putfield 17, 3) := by decide +kernel
theorem dX8_init_21 : decode cX8_init 21 = .ok (.aload_n 0, 1) := by decide +kernel
theorem dX8_init_22 : decode cX8_init 22 = .ok (.sipush 160, 3) := by decide +kernel
theorem dX8_init_25 : decode cX8_init 25 = .ok (.newarray .int, 2) := by decide +kernel
theorem dX8_init_27 : decode cX8_init 27 = .ok (.putfield 20, 3) := by decide +kernel
theorem dX8_init_30 : decode cX8_init 30 = .ok (.aload_n 0, 1) := by decide +kernel
theorem dX8_init_31 : decode cX8_init 31 = .ok (.bipush 12, 2) := by decide +kernel
theorem dX8_init_33 : decode cX8_init 33 = .ok (.newarray .int, 2) := by decide +kernel
theorem dX8_init_35 : decode cX8_init 35 = .ok (.putfield 23, 3) := by decide +kernel
theorem dX8_init_38 : decode cX8_init 38 = .ok (.aload_n 0, 1) := by decide +kernel
theorem dX8_init_39 : decode cX8_init 39 = .ok (.iconst 5, 1) := by decide +kernel
theorem dX8_init_40 : decode cX8_init 40 = .ok (.newarray .int, 2) := by decide +kernel
theorem dX8_init_42 : decode cX8_init 42 = .ok (.putfield 26, 3) := by decide +kernel
theorem dX8_init_45 : decode cX8_init 45 = .ok (.aload_n 0, 1) := by decide +kernel
theorem dX8_init_46 : decode cX8_init 46 = .ok (.bipush 20, 2) := by decide +kernel
theorem dX8_init_48 : decode cX8_init 48 = .ok (.newarray .int, 2) := by decide +kernel
theorem dX8_init_50 : decode cX8_init 50 = .ok (.putfield 29, 3) := by decide +kernel
theorem dX8_init_53 : decode cX8_init 53 = .ok (.aload_n 0, 1) := by decide +kernel
theorem dX8_init_54 : decode cX8_init 54 = .ok (.sipush 298, 3) := by decide +kernel
theorem dX8_init_57 : decode cX8_init 57 = .ok (.newarray .int, 2) := by decide +kernel
theorem dX8_init_59 : decode cX8_init 59 = .ok (.putfield 32, 3) := by decide +kernel
theorem dX8_init_62 : decode cX8_init 62 = .ok (.aload_n 0, 1) := by decide +kernel
theorem dX8_init_63 : decode cX8_init 63 = .ok (.bipush 20, 2) := by decide +kernel
theorem dX8_init_65 : decode cX8_init 65 = .ok (.newarray .int, 2) := by decide +kernel
theorem dX8_init_67 : decode cX8_init 67 = .ok (.putfield 35, 3) := by decide +kernel
theorem dX8_init_70 : decode cX8_init 70 = .ok (.aload_n 0, 1) := by decide +kernel
theorem dX8_init_71 : decode cX8_init 71 = .ok (.bipush 12, 2) := by decide +kernel
theorem dX8_init_73 : decode cX8_init 73 = .ok (.newarray .int, 2) := by decide +kernel
theorem dX8_init_75 : decode cX8_init 75 = .ok (.putfield 38, 3) := by decide +kernel
theorem dX8_init_78 : decode cX8_init 78 = .ok (.aload_n 0, 1) := by decide +kernel
theorem dX8_init_79 : decode cX8_init 79 = .ok (.bipush 12, 2) := by decide +kernel
theorem dX8_init_81 : decode cX8_init 81 = .ok (.newarray .int, 2) := by decide +kernel
theorem dX8_init_83 : decode cX8_init 83 = .ok (.putfield 41, 3) := by decide +kernel
theorem dX8_init_86 : decode cX8_init 86 = .ok (.aload_n 0, 1) := by decide +kernel
theorem dX8_init_87 : decode cX8_init 87 = .ok (.bipush 20, 2) := by decide +kernel
theorem dX8_init_89 : decode cX8_init 89 = .ok (.newarray .int, 2) := by decide +kernel
theorem dX8_init_91 : decode cX8_init 91 = .ok (.putfield 44, 3) := by decide +kernel
theorem dX8_init_94 : decode cX8_init 94 = .ok (.aload_n 0, 1) := by decide +kernel
theorem dX8_init_95 : decode cX8_init 95 = .ok (.iconst (-1), 1) := by decide +kernel
theorem dX8_init_96 : decode cX8_init 96 = .ok (.putfield 47, 3) := by decide +kernel
theorem dX8_init_99 : decode cX8_init 99 = .ok (.aload_n 0, 1) := by decide +kernel
theorem dX8_init_100 : decode cX8_init 100 = .ok (.iconst 4, 1) := by decide +kernel
theorem dX8_init_101 : decode cX8_init 101 = .ok (.newarray .boolean, 2) := by decide +kernel
theorem dX8_init_103 : decode cX8_init 103 = .ok (.putfield 50, 3) := by decide +kernel
theorem dX8_init_106 : decode cX8_init 106 = .ok (.aload_n 0, 1) := by decide +kernel
theorem dX8_init_107 : decode cX8_init 107 = .ok (.iconst 4, 1) := by decide +kernel
theorem dX8_init_108 : decode cX8_init 108 = .ok (.newarray .int, 2) := by decide +kernel
theorem dX8_init_110 : decode cX8_init 110 = .ok (.putfield 54, 3) := by decide +kernel
theorem dX8_init_113 : decode cX8_init 113 = .ok (.aload_n 0, 1) := by decide +kernel
theorem dX8_init_114 : decode cX8_init 114 = .ok (.iconst 4, 1) := by decide +kernel
theorem dX8_init_115 : decode cX8_init 115 = .ok (.newarray .int, 2) := by decide +kernel
theorem dX8_init_117 : decode cX8_init 117 = .ok (.putfield 57, 3) := by decide +kernel
theorem dX8_init_120 : decode cX8_init 120 = .ok (.aload_n 0, 1) := by decide +kernel
theorem dX8_init_121 : decode cX8_init 121 = .ok (.sipush 160, 3) := by decide +kernel
theorem dX8_init_124 : decode cX8_init 124 = .ok (.newarray .int, 2) := by decide +kernel
theorem dX8_init_126 : decode cX8_init 126 = .ok (.putfield 60, 3) := by decide +kernel
theorem dX8_init_129 : decode cX8_init 129 = .ok (.iconst 0, 1) := by decide +kernel
theorem dX8_init_130 : decode cX8_init 130 = .ok (.istore_n 1, 1) := by decide +kernel
theorem dX8_init_131 : decode cX8_init 131 = .ok (.iconst 1, 1) := by decide +kernel
theorem dX8_init_132 : decode cX8_init 132 = .ok (.istore_n 2, 1) := by decide +kernel
theorem dX8_init_133 : decode cX8_init 133 = .ok (.iload_n 2, 1) := by decide +kernel
theorem dX8_init_134 : decode cX8_init 134 = .ok (.iconst 4, 1) := by decide +kernel
theorem dX8_init_135 : decode cX8_init 135 = .ok (.if_icmp .ge 42, 3) := by decide +kernel
theorem dX8_init_138 : decode cX8_init 138 = .ok (.iconst 1, 1) := by decide +kernel
theorem dX8_init_139 : decode cX8_init 139 = .ok (.istore_n 3, 1) := by decide +kernel
theorem dX8_init_140 : decode cX8_init 140 = .ok (.iload_n 3, 1) := by decide +kernel
theorem dX8_init_141 : decode cX8_init 141 = .ok (.sipush 4095, 3) := by decide +kernel
theorem dX8_init_144 : decode cX8_init 144 = .ok (.if_icmp .gt 27, 3) := by decide +kernel
theorem dX8_init_147 : decode cX8_init 147 = .ok (.iload_n 3, 1) := by decide +kernel
theorem dX8_init_148 : decode cX8_init 148 = .ok (.invokestatic 63, 3) := by decide +kernel
theorem dX8_init_151 : decode cX8_init 151 = .ok (.iload_n 2, 1) := by decide +kernel
theorem dX8_init_152 : decode cX8_init 152 = .ok (.if_icmp .ne 13, 3) := by decide +kernel
theorem dX8_init_155 : decode cX8_init 155 = .ok (.aload_n 0, 1) := by decide +kernel
theorem dX8_init_156 : decode cX8_init 156 = .ok (.getfield 32, 3) := by decide +kernel
theorem dX8_init_159 : decode cX8_init 159 = .ok (.iload_n 1, 1) := by decide +kernel
theorem dX8_init_160 : decode cX8_init 160 = .ok (.iload_n 3, 1) := by decide +kernel
theorem dX8_init_161 : decode cX8_init 161 = .ok (.iastore, 1) := by decide +kernel
theorem dX8_init_162 : decode cX8_init 162 = .ok (.iinc 1 1, 3) := by decide +kernel
theorem dX8_init_165 : decode cX8_init 165 = .ok (.iinc 3 1, 3) := by decide +kernel
theorem dX8_init_168 : decode cX8_init 168 = .ok (.goto (-28), 3) := by decide +kernel
theorem dX8_init_171 : decode cX8_init 171 = .ok (.iinc 2 1, 3) := by decide +kernel
theorem dX8_init_174 : decode cX8_init 174 = .ok (.goto (-41), 3) := by decide +kernel
theorem dX8_init_177 : decode cX8_init 177 = .ok (.aload_n 0, 1) := by decide +kernel
theorem dX8_init_178 : decode cX8_init 178 = .ok (.iconst 0, 1) := by decide +kernel
theorem dX8_init_179 : decode cX8_init 179 = .ok (.bipush 103, 2) := by decide +kernel
theorem dX8_init_181 : decode cX8_init 181 = .ok (.bipush 105, 2) := by decide +kernel
theorem dX8_init_183 : decode cX8_init 183 = .ok (.bipush 118, 2) := by decide +kernel
theorem dX8_init_185 : decode cX8_init 185 = .ok (.bipush 101, 2) := by decide +kernel
