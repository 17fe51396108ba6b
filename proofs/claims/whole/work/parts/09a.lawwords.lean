set_option maxRecDepth 100000 in
theorem zin_1 : ∀ w ∈ wsL_law_r1, w ∈ lw_tbl := fun w h => (goodIn_p wsL_law_r1 [132, 135] rfl (by decide +kernel) w h).1
set_option maxRecDepth 100000 in
theorem zin_2 : ∀ w ∈ wsL_law_r2, w ∈ lw_tbl := fun w h => (goodIn_p wsL_law_r2 [146] rfl (by decide +kernel) w h).1
set_option maxRecDepth 100000 in
theorem zin_3 : ∀ w ∈ wsL_law_r3, w ∈ lw_tbl := fun w h => (goodIn_p wsL_law_r3 [210, 216, 263] rfl (by decide +kernel) w h).1
set_option maxRecDepth 100000 in
theorem zin_4 : ∀ w ∈ wsL_law_r4, w ∈ lw_tbl := fun w h => (goodIn_p wsL_law_r4 [269, 316, 340, 358, 362] rfl (by decide +kernel) w h).1
set_option maxRecDepth 100000 in
theorem zin_5 : ∀ w ∈ wsL_law_r5, w ∈ lw_tbl := fun w h => (goodIn_p wsL_law_r5 [366, 370, 374, 378, 381] rfl (by decide +kernel) w h).1
set_option maxRecDepth 100000 in
theorem zin_6 : ∀ w ∈ wsL_law_r6, w ∈ lw_tbl := fun w h => (goodIn_p wsL_law_r6 [980, 984] rfl (by decide +kernel) w h).1
set_option maxRecDepth 100000 in
theorem zin_7 : ∀ w ∈ wsL_law_r7, w ∈ lw_tbl := fun w h => (goodIn_p wsL_law_r7 [988, 431, 434, 1131, 1134, 1138] rfl (by decide +kernel) w h).1
set_option maxRecDepth 100000 in
theorem zin_8 : ∀ w ∈ wsL_law_r8, w ∈ lw_tbl := fun w h => (goodIn_p wsL_law_r8 [438, 441, 445, 449, 453] rfl (by decide +kernel) w h).1
set_option maxRecDepth 100000 in
theorem zin_9 : ∀ w ∈ wsL_law_r9, w ∈ lw_tbl := fun w h => (goodIn_p wsL_law_r9 [1142, 1147, 1150, 1154, 1159] rfl (by decide +kernel) w h).1
set_option maxRecDepth 100000 in
theorem zin_10 : ∀ w ∈ wsL_law_r10, w ∈ lw_tbl := fun w h => (goodIn_p wsL_law_r10 [1163, 1167, 1171, 1175, 1179, 1183] rfl (by decide +kernel) w h).1
set_option maxRecDepth 100000 in
theorem zin_11 : ∀ w ∈ wsL_law_r11, w ∈ lw_tbl := fun w h => (goodIn_p wsL_law_r11 [1187, 1191] rfl (by decide +kernel) w h).1
set_option maxRecDepth 100000 in
theorem zin_12 : ∀ w ∈ wsL_law_r12, w ∈ lw_tbl := fun w h => (goodIn_p wsL_law_r12 [1195, 1204, 1208, 1212, 1216] rfl (by decide +kernel) w h).1
set_option maxRecDepth 100000 in
theorem zin_13 : ∀ w ∈ wsL_law_r13, w ∈ lw_tbl := fun w h => (goodIn_p wsL_law_r13 [1220, 1224, 1228, 1232, 1236, 1240] rfl (by decide +kernel) w h).1
set_option maxRecDepth 100000 in
theorem zin_14 : ∀ w ∈ wsL_law_r14, w ∈ lw_tbl := fun w h => (goodIn_p wsL_law_r14 [1244, 1248, 1252, 1256, 1260] rfl (by decide +kernel) w h).1
set_option maxRecDepth 100000 in
theorem zin_15 : ∀ w ∈ wsL_law_r15, w ∈ lw_tbl := fun w h => (goodIn_p wsL_law_r15 [1264, 1268, 1272, 1278, 1282, 1286] rfl (by decide +kernel) w h).1
set_option maxRecDepth 100000 in
theorem zin_16 : ∀ w ∈ wsL_law_r16, w ∈ lw_tbl := fun w h => (goodIn_p wsL_law_r16 [1290, 1294, 1298, 1302, 1306, 1310] rfl (by decide +kernel) w h).1
set_option maxRecDepth 100000 in
theorem zin_17 : ∀ w ∈ wsL_law_r17, w ∈ lw_tbl := fun w h => (goodIn_p wsL_law_r17 [1314, 1318, 1322, 1326, 1330, 1334] rfl (by decide +kernel) w h).1
set_option maxRecDepth 100000 in
theorem zin_18 : ∀ w ∈ wsL_law_r18, w ∈ lw_tbl := fun w h => (goodIn_p wsL_law_r18 [1338, 1342, 1346, 1350, 1354, 1358] rfl (by decide +kernel) w h).1
set_option maxRecDepth 100000 in
theorem zin_19 : ∀ w ∈ wsL_law_r19, w ∈ lw_tbl := fun w h => (goodIn_p wsL_law_r19 [1362, 1366, 1370, 1374, 1377, 1380, 1384] rfl (by decide +kernel) w h).1
set_option maxRecDepth 100000 in
theorem zin_20 : ∀ w ∈ wsL_law_r20, w ∈ lw_tbl := fun w h => (goodIn_p wsL_law_r20 [457, 461, 1388, 465, 469] rfl (by decide +kernel) w h).1
set_option maxRecDepth 100000 in
theorem zin_21 : ∀ w ∈ wsL_law_r21, w ∈ lw_tbl := fun w h => (goodIn_p wsL_law_r21 [473, 477] rfl (by decide +kernel) w h).1
set_option maxRecDepth 100000 in
theorem zin_22 : ∀ w ∈ wsL_law_r22, w ∈ lw_tbl := fun w h => (goodIn_p wsL_law_r22 [481, 485, 489, 493, 497] rfl (by decide +kernel) w h).1
set_option maxRecDepth 100000 in
theorem zin_23 : ∀ w ∈ wsL_law_r23, w ∈ lw_tbl := fun w h => (goodIn_p wsL_law_r23 [502, 506, 509, 513, 518, 522] rfl (by decide +kernel) w h).1
set_option maxRecDepth 100000 in
theorem zin_24 : ∀ w ∈ wsL_law_r24, w ∈ lw_tbl := fun w h => (goodIn_p wsL_law_r24 [526, 529, 532, 535, 539, 542, 545] rfl (by decide +kernel) w h).1
set_option maxRecDepth 100000 in
theorem zin_25 : ∀ w ∈ wsL_law_r25, w ∈ lw_tbl := fun w h => (goodIn_p wsL_law_r25 [549, 552, 557, 561, 1408] rfl (by decide +kernel) w h).1
set_option maxRecDepth 100000 in
theorem zin_26 : ∀ w ∈ wsL_law_r26, w ∈ lw_tbl := fun w h => (goodIn_p wsL_law_r26 [1414, 1418, 565, 569, 573, 1422] rfl (by decide +kernel) w h).1
set_option maxRecDepth 100000 in
theorem zin_27 : ∀ w ∈ wsL_law_r27, w ∈ lw_tbl := fun w h => (goodIn_p wsL_law_r27 [1426, 577, 1395, 581, 585] rfl (by decide +kernel) w h).1
set_option maxRecDepth 100000 in
theorem zin_28 : ∀ w ∈ wsL_law_r28, w ∈ lw_tbl := fun w h => (goodIn_p wsL_law_r28 [590, 594, 598, 601] rfl (by decide +kernel) w h).1
set_option maxRecDepth 100000 in
theorem zin_29 : ∀ w ∈ wsL_law_r29, w ∈ lw_tbl := fun w h => (goodIn_p wsL_law_r29 [604, 608, 613, 617, 621] rfl (by decide +kernel) w h).1
set_option maxRecDepth 100000 in
theorem zin_30 : ∀ w ∈ wsL_law_r30, w ∈ lw_tbl := fun w h => (goodIn_p wsL_law_r30 [627, 631, 634, 637, 642, 645, 648] rfl (by decide +kernel) w h).1
set_option maxRecDepth 100000 in
theorem zin_31 : ∀ w ∈ wsL_law_r31, w ∈ lw_tbl := fun w h => (goodIn_p wsL_law_r31 [651, 655, 675, 679, 682, 686] rfl (by decide +kernel) w h).1
set_option maxRecDepth 100000 in
theorem zin_32 : ∀ w ∈ wsL_law_r32, w ∈ lw_tbl := fun w h => (goodIn_p wsL_law_r32 [690, 694, 698, 702, 706, 710] rfl (by decide +kernel) w h).1
set_option maxRecDepth 100000 in
theorem zin_33 : ∀ w ∈ wsL_law_r33, w ∈ lw_tbl := fun w h => (goodIn_p wsL_law_r33 [726, 714, 718, 722, 739, 742] rfl (by decide +kernel) w h).1
set_option maxRecDepth 100000 in
theorem zin_34 : ∀ w ∈ wsL_law_r34, w ∈ lw_tbl := fun w h => (goodIn_p wsL_law_r34 [746, 731, 735, 1400, 752] rfl (by decide +kernel) w h).1
set_option maxRecDepth 100000 in
theorem zin_35 : ∀ w ∈ wsL_law_r35, w ∈ lw_tbl := fun w h => (goodIn_p wsL_law_r35 [1404, 756, 760, 768, 1430] rfl (by decide +kernel) w h).1
set_option maxRecDepth 100000 in
theorem zin_36 : ∀ w ∈ wsL_law_r36, w ∈ lw_tbl := fun w h => (goodIn_p wsL_law_r36 [1434, 772, 1438, 776] rfl (by decide +kernel) w h).1
set_option maxRecDepth 100000 in
theorem zin_37 : ∀ w ∈ wsL_law_r37, w ∈ lw_tbl := fun w h => (goodIn_p wsL_law_r37 [780, 783, 787, 791, 794, 1442] rfl (by decide +kernel) w h).1
set_option maxRecDepth 100000 in
theorem zin_38 : ∀ w ∈ wsL_law_r38, w ∈ lw_tbl := fun w h => (goodIn_p wsL_law_r38 [1445, 1449, 1453, 1457, 1461] rfl (by decide +kernel) w h).1
set_option maxRecDepth 100000 in
theorem zin_39 : ∀ w ∈ wsL_law_r39, w ∈ lw_tbl := fun w h => (goodIn_p wsL_law_r39 [798, 1465, 802, 805, 1469, 809] rfl (by decide +kernel) w h).1
set_option maxRecDepth 100000 in
theorem zin_40 : ∀ w ∈ wsL_law_r40, w ∈ lw_tbl := fun w h => (goodIn_p wsL_law_r40 [813, 1473, 817, 821, 1477, 825, 828] rfl (by decide +kernel) w h).1
set_option maxRecDepth 100000 in
theorem zin_41 : ∀ w ∈ wsL_law_r41, w ∈ lw_tbl := fun w h => (goodIn_p wsL_law_r41 [831, 1481, 835, 839, 843, 847] rfl (by decide +kernel) w h).1
set_option maxRecDepth 100000 in
theorem zin_42 : ∀ w ∈ wsL_law_r42, w ∈ lw_tbl := fun w h => (goodIn_p wsL_law_r42 [851, 1485, 1489, 1493, 855, 859] rfl (by decide +kernel) w h).1
set_option maxRecDepth 100000 in
theorem zin_43 : ∀ w ∈ wsL_law_r43, w ∈ lw_tbl := fun w h => (goodIn_p wsL_law_r43 [1497, 1501, 863, 866, 869, 872] rfl (by decide +kernel) w h).1
set_option maxRecDepth 100000 in
theorem zin_44 : ∀ w ∈ wsL_law_r44, w ∈ lw_tbl := fun w h => (goodIn_p wsL_law_r44 [875, 878, 881, 885, 889, 1506] rfl (by decide +kernel) w h).1
set_option maxRecDepth 100000 in
theorem zin_45 : ∀ w ∈ wsL_law_r45, w ∈ lw_tbl := fun w h => (goodIn_p wsL_law_r45 [1510, 1514, 1518, 893, 897, 903] rfl (by decide +kernel) w h).1
set_option maxRecDepth 100000 in
theorem zin_46 : ∀ w ∈ wsL_law_r46, w ∈ lw_tbl := fun w h => (goodIn_p wsL_law_r46 [1522, 1526, 907, 910, 1532] rfl (by decide +kernel) w h).1
set_option maxRecDepth 100000 in
theorem zin_47 : ∀ w ∈ wsL_law_r47, w ∈ lw_tbl := fun w h => (goodIn_p wsL_law_r47 [1537, 915, 1542, 919, 923] rfl (by decide +kernel) w h).1
set_option maxRecDepth 100000 in
theorem zin_48 : ∀ w ∈ wsL_law_r48, w ∈ lw_tbl := fun w h => (goodIn_p wsL_law_r48 [926, 929, 933, 1547, 937, 941] rfl (by decide +kernel) w h).1
set_option maxRecDepth 100000 in
theorem zin_49 : ∀ w ∈ wsL_law_r49, w ∈ lw_tbl := fun w h => (goodIn_p wsL_law_r49 [1551, 945, 1555, 949, 953] rfl (by decide +kernel) w h).1
set_option maxRecDepth 100000 in
theorem zin_50 : ∀ w ∈ wsL_law_r50, w ∈ lw_tbl := fun w h => (goodIn_p wsL_law_r50 [1560, 957, 961, 1564, 968] rfl (by decide +kernel) w h).1
set_option maxRecDepth 100000 in
theorem zin_51 : ∀ w ∈ wsL_law_r51, w ∈ lw_tbl := fun w h => (goodIn_p wsL_law_r51 [1568, 973, 1573, 1576] rfl (by decide +kernel) w h).1
set_option maxRecDepth 100000 in
theorem zinX7 : ∀ w ∈ wsX70, w ∈ lw_tbl := by decide +kernel
set_option maxRecDepth 100000 in
theorem zinX8 : ∀ w ∈ wsX80, w ∈ lw_tbl := by decide +kernel
set_option maxRecDepth 100000 in
theorem zinX6 : ∀ w ∈ wsX60, w ∈ lw_tbl := by decide +kernel
set_option maxRecDepth 100000 in
theorem zinX2 : ∀ w ∈ wsX20, w ∈ lw_tbl := by decide +kernel
set_option maxRecDepth 100000 in
theorem zinX1 : ∀ w ∈ wsX10, w ∈ lw_tbl := by decide +kernel
set_option maxRecDepth 100000 in
theorem zinX0 : ∀ w ∈ wsX00, w ∈ lw_tbl := by decide +kernel
set_option maxRecDepth 100000 in
theorem zinX4 : ∀ w ∈ wsX40, w ∈ lw_tbl := by decide +kernel
set_option maxRecDepth 100000 in
theorem zinX3 : ∀ w ∈ wsX30, w ∈ lw_tbl := by decide +kernel
set_option maxRecDepth 100000 in
theorem zinX5 : ∀ w ∈ wsX50, w ∈ lw_tbl := by decide +kernel
theorem zit_51 : ∀ w ∈ zt_51, w ∈ lw_tbl := zin_51
theorem zit_50 : ∀ w ∈ zt_50, w ∈ lw_tbl := fun w h => (List.mem_append.mp h).elim (zin_50 w) (zit_51 w)
theorem zit_49 : ∀ w ∈ zt_49, w ∈ lw_tbl := fun w h => (List.mem_append.mp h).elim (zin_49 w) (zit_50 w)
theorem zit_48 : ∀ w ∈ zt_48, w ∈ lw_tbl := fun w h => (List.mem_append.mp h).elim (zin_48 w) (zit_49 w)
theorem zit_47 : ∀ w ∈ zt_47, w ∈ lw_tbl := fun w h => (List.mem_append.mp h).elim (zin_47 w) (zit_48 w)
theorem zit_46 : ∀ w ∈ zt_46, w ∈ lw_tbl := fun w h => (List.mem_append.mp h).elim (zin_46 w) (zit_47 w)
theorem zit_45 : ∀ w ∈ zt_45, w ∈ lw_tbl := fun w h => (List.mem_append.mp h).elim (zin_45 w) (zit_46 w)
theorem zit_44 : ∀ w ∈ zt_44, w ∈ lw_tbl := fun w h => (List.mem_append.mp h).elim (zin_44 w) (zit_45 w)
theorem zit_43 : ∀ w ∈ zt_43, w ∈ lw_tbl := fun w h => (List.mem_append.mp h).elim (zin_43 w) (zit_44 w)
theorem zit_42 : ∀ w ∈ zt_42, w ∈ lw_tbl := fun w h => (List.mem_append.mp h).elim (zin_42 w) (zit_43 w)
theorem zit_41 : ∀ w ∈ zt_41, w ∈ lw_tbl := fun w h => (List.mem_append.mp h).elim (zin_41 w) (zit_42 w)
theorem zit_40 : ∀ w ∈ zt_40, w ∈ lw_tbl := fun w h => (List.mem_append.mp h).elim (zin_40 w) (zit_41 w)
theorem zit_39 : ∀ w ∈ zt_39, w ∈ lw_tbl := fun w h => (List.mem_append.mp h).elim (zin_39 w) (zit_40 w)
theorem zit_38 : ∀ w ∈ zt_38, w ∈ lw_tbl := fun w h => (List.mem_append.mp h).elim (zin_38 w) (zit_39 w)
theorem zit_37 : ∀ w ∈ zt_37, w ∈ lw_tbl := fun w h => (List.mem_append.mp h).elim (zin_37 w) (zit_38 w)
theorem zit_36 : ∀ w ∈ zt_36, w ∈ lw_tbl := fun w h => (List.mem_append.mp h).elim (zin_36 w) (zit_37 w)
theorem zit_35 : ∀ w ∈ zt_35, w ∈ lw_tbl := fun w h => (List.mem_append.mp h).elim (zin_35 w) (zit_36 w)
theorem zit_34 : ∀ w ∈ zt_34, w ∈ lw_tbl := fun w h => (List.mem_append.mp h).elim (zin_34 w) (zit_35 w)
theorem zit_33 : ∀ w ∈ zt_33, w ∈ lw_tbl := fun w h => (List.mem_append.mp h).elim (zin_33 w) (zit_34 w)
theorem zit_32 : ∀ w ∈ zt_32, w ∈ lw_tbl := fun w h => (List.mem_append.mp h).elim (zin_32 w) (zit_33 w)
theorem zit_31 : ∀ w ∈ zt_31, w ∈ lw_tbl := fun w h => (List.mem_append.mp h).elim (zin_31 w) (zit_32 w)
theorem zit_30 : ∀ w ∈ zt_30, w ∈ lw_tbl := fun w h => (List.mem_append.mp h).elim (zin_30 w) (zit_31 w)
theorem zit_29 : ∀ w ∈ zt_29, w ∈ lw_tbl := fun w h => (List.mem_append.mp h).elim (zin_29 w) (zit_30 w)
theorem zit_28 : ∀ w ∈ zt_28, w ∈ lw_tbl := fun w h => (List.mem_append.mp h).elim (zin_28 w) (zit_29 w)
theorem zit_27 : ∀ w ∈ zt_27, w ∈ lw_tbl := fun w h => (List.mem_append.mp h).elim (zin_27 w) (zit_28 w)
theorem zit_26 : ∀ w ∈ zt_26, w ∈ lw_tbl := fun w h => (List.mem_append.mp h).elim (zin_26 w) (zit_27 w)
theorem zit_25 : ∀ w ∈ zt_25, w ∈ lw_tbl := fun w h => (List.mem_append.mp h).elim (zin_25 w) (zit_26 w)
theorem zit_24 : ∀ w ∈ zt_24, w ∈ lw_tbl := fun w h => (List.mem_append.mp h).elim (zin_24 w) (zit_25 w)
theorem zit_23 : ∀ w ∈ zt_23, w ∈ lw_tbl := fun w h => (List.mem_append.mp h).elim (zin_23 w) (zit_24 w)
theorem zit_22 : ∀ w ∈ zt_22, w ∈ lw_tbl := fun w h => (List.mem_append.mp h).elim (zin_22 w) (zit_23 w)
theorem zit_21 : ∀ w ∈ zt_21, w ∈ lw_tbl := fun w h => (List.mem_append.mp h).elim (zin_21 w) (zit_22 w)
theorem zit_20 : ∀ w ∈ zt_20, w ∈ lw_tbl := fun w h => (List.mem_append.mp h).elim (zin_20 w) (zit_21 w)
theorem zit_19 : ∀ w ∈ zt_19, w ∈ lw_tbl := fun w h => (List.mem_append.mp h).elim (zin_19 w) (zit_20 w)
theorem zit_18 : ∀ w ∈ zt_18, w ∈ lw_tbl := fun w h => (List.mem_append.mp h).elim (zin_18 w) (zit_19 w)
theorem zit_17 : ∀ w ∈ zt_17, w ∈ lw_tbl := fun w h => (List.mem_append.mp h).elim (zin_17 w) (zit_18 w)
theorem zit_16 : ∀ w ∈ zt_16, w ∈ lw_tbl := fun w h => (List.mem_append.mp h).elim (zin_16 w) (zit_17 w)
theorem zit_15 : ∀ w ∈ zt_15, w ∈ lw_tbl := fun w h => (List.mem_append.mp h).elim (zin_15 w) (zit_16 w)
theorem zit_14 : ∀ w ∈ zt_14, w ∈ lw_tbl := fun w h => (List.mem_append.mp h).elim (zin_14 w) (zit_15 w)
theorem zit_13 : ∀ w ∈ zt_13, w ∈ lw_tbl := fun w h => (List.mem_append.mp h).elim (zin_13 w) (zit_14 w)
theorem zit_12 : ∀ w ∈ zt_12, w ∈ lw_tbl := fun w h => (List.mem_append.mp h).elim (zin_12 w) (zit_13 w)
theorem zit_11 : ∀ w ∈ zt_11, w ∈ lw_tbl := fun w h => (List.mem_append.mp h).elim (zin_11 w) (zit_12 w)
theorem zit_10 : ∀ w ∈ zt_10, w ∈ lw_tbl := fun w h => (List.mem_append.mp h).elim (zin_10 w) (zit_11 w)
theorem zit_9 : ∀ w ∈ zt_9, w ∈ lw_tbl := fun w h => (List.mem_append.mp h).elim (zin_9 w) (zit_10 w)
theorem zit_8 : ∀ w ∈ zt_8, w ∈ lw_tbl := fun w h => (List.mem_append.mp h).elim (zin_8 w) (zit_9 w)
theorem zit_7 : ∀ w ∈ zt_7, w ∈ lw_tbl := fun w h => (List.mem_append.mp h).elim (zin_7 w) (zit_8 w)
theorem zit_6 : ∀ w ∈ zt_6, w ∈ lw_tbl := fun w h => (List.mem_append.mp h).elim (zin_6 w) (zit_7 w)
theorem zit_5 : ∀ w ∈ zt_5, w ∈ lw_tbl := fun w h => (List.mem_append.mp h).elim (zin_5 w) (zit_6 w)
theorem zit_4 : ∀ w ∈ zt_4, w ∈ lw_tbl := fun w h => (List.mem_append.mp h).elim (zin_4 w) (zit_5 w)
theorem zit_3 : ∀ w ∈ zt_3, w ∈ lw_tbl := fun w h => (List.mem_append.mp h).elim (zin_3 w) (zit_4 w)
theorem zit_2 : ∀ w ∈ zt_2, w ∈ lw_tbl := fun w h => (List.mem_append.mp h).elim (zin_2 w) (zit_3 w)
theorem zit_1 : ∀ w ∈ zt_1, w ∈ lw_tbl := fun w h => (List.mem_append.mp h).elim (zin_1 w) (zit_2 w)
theorem zin_law : ∀ w ∈ wsL_law, w ∈ lw_tbl := fun w => fun h => (List.mem_append.mp h).elim (fun h => (List.mem_append.mp h).elim (fun h => (List.mem_append.mp h).elim (fun h => (List.mem_append.mp h).elim (fun h => (List.mem_append.mp h).elim (fun h => (List.mem_append.mp h).elim (fun h => (List.mem_append.mp h).elim (fun h => (List.mem_append.mp h).elim (fun h => (List.mem_append.mp h).elim (fun h => (List.mem_append.mp h).elim (fun h => zit_1 w h) (zinX7 w)) (zinX8 w)) (zinX6 w)) (zinX2 w)) (zinX1 w)) (zinX0 w)) (zinX4 w)) (zinX3 w)) (zinX5 w)) (fun h => absurd h List.not_mem_nil)
