def zt_51 : List Cond := wsL_law_r51
def zt_50 : List Cond := wsL_law_r50 ++ zt_51
def zt_49 : List Cond := wsL_law_r49 ++ zt_50
def zt_48 : List Cond := wsL_law_r48 ++ zt_49
def zt_47 : List Cond := wsL_law_r47 ++ zt_48
def zt_46 : List Cond := wsL_law_r46 ++ zt_47
def zt_45 : List Cond := wsL_law_r45 ++ zt_46
def zt_44 : List Cond := wsL_law_r44 ++ zt_45
def zt_43 : List Cond := wsL_law_r43 ++ zt_44
def zt_42 : List Cond := wsL_law_r42 ++ zt_43
def zt_41 : List Cond := wsL_law_r41 ++ zt_42
def zt_40 : List Cond := wsL_law_r40 ++ zt_41
def zt_39 : List Cond := wsL_law_r39 ++ zt_40
def zt_38 : List Cond := wsL_law_r38 ++ zt_39
def zt_37 : List Cond := wsL_law_r37 ++ zt_38
def zt_36 : List Cond := wsL_law_r36 ++ zt_37
def zt_35 : List Cond := wsL_law_r35 ++ zt_36
def zt_34 : List Cond := wsL_law_r34 ++ zt_35
def zt_33 : List Cond := wsL_law_r33 ++ zt_34
def zt_32 : List Cond := wsL_law_r32 ++ zt_33
def zt_31 : List Cond := wsL_law_r31 ++ zt_32
def zt_30 : List Cond := wsL_law_r30 ++ zt_31
def zt_29 : List Cond := wsL_law_r29 ++ zt_30
def zt_28 : List Cond := wsL_law_r28 ++ zt_29
def zt_27 : List Cond := wsL_law_r27 ++ zt_28
def zt_26 : List Cond := wsL_law_r26 ++ zt_27
def zt_25 : List Cond := wsL_law_r25 ++ zt_26
def zt_24 : List Cond := wsL_law_r24 ++ zt_25
def zt_23 : List Cond := wsL_law_r23 ++ zt_24
def zt_22 : List Cond := wsL_law_r22 ++ zt_23
def zt_21 : List Cond := wsL_law_r21 ++ zt_22
def zt_20 : List Cond := wsL_law_r20 ++ zt_21
def zt_19 : List Cond := wsL_law_r19 ++ zt_20
def zt_18 : List Cond := wsL_law_r18 ++ zt_19
def zt_17 : List Cond := wsL_law_r17 ++ zt_18
def zt_16 : List Cond := wsL_law_r16 ++ zt_17
def zt_15 : List Cond := wsL_law_r15 ++ zt_16
def zt_14 : List Cond := wsL_law_r14 ++ zt_15
def zt_13 : List Cond := wsL_law_r13 ++ zt_14
def zt_12 : List Cond := wsL_law_r12 ++ zt_13
def zt_11 : List Cond := wsL_law_r11 ++ zt_12
def zt_10 : List Cond := wsL_law_r10 ++ zt_11
def zt_9 : List Cond := wsL_law_r9 ++ zt_10
def zt_8 : List Cond := wsL_law_r8 ++ zt_9
def zt_7 : List Cond := wsL_law_r7 ++ zt_8
def zt_6 : List Cond := wsL_law_r6 ++ zt_7
def zt_5 : List Cond := wsL_law_r5 ++ zt_6
def zt_4 : List Cond := wsL_law_r4 ++ zt_5
def zt_3 : List Cond := wsL_law_r3 ++ zt_4
def zt_2 : List Cond := wsL_law_r2 ++ zt_3
def zt_1 : List Cond := wsL_law_r1 ++ zt_2
theorem zq_1 : ∀ w ∈ zt_1, w ∈ wsL_law := fun _ h => List.mem_append_left _ (List.mem_append_left _ (List.mem_append_left _ (List.mem_append_left _ (List.mem_append_left _ (List.mem_append_left _ (List.mem_append_left _ (List.mem_append_left _ (List.mem_append_left _ (List.mem_append_left _ (h))))))))))
theorem zq_2 : ∀ w ∈ zt_2, w ∈ wsL_law := fun w h => zq_1 w (List.mem_append_right _ h)
theorem zq_3 : ∀ w ∈ zt_3, w ∈ wsL_law := fun w h => zq_2 w (List.mem_append_right _ h)
theorem zq_4 : ∀ w ∈ zt_4, w ∈ wsL_law := fun w h => zq_3 w (List.mem_append_right _ h)
theorem zq_5 : ∀ w ∈ zt_5, w ∈ wsL_law := fun w h => zq_4 w (List.mem_append_right _ h)
theorem zq_6 : ∀ w ∈ zt_6, w ∈ wsL_law := fun w h => zq_5 w (List.mem_append_right _ h)
theorem zq_7 : ∀ w ∈ zt_7, w ∈ wsL_law := fun w h => zq_6 w (List.mem_append_right _ h)
theorem zq_8 : ∀ w ∈ zt_8, w ∈ wsL_law := fun w h => zq_7 w (List.mem_append_right _ h)
theorem zq_9 : ∀ w ∈ zt_9, w ∈ wsL_law := fun w h => zq_8 w (List.mem_append_right _ h)
theorem zq_10 : ∀ w ∈ zt_10, w ∈ wsL_law := fun w h => zq_9 w (List.mem_append_right _ h)
theorem zq_11 : ∀ w ∈ zt_11, w ∈ wsL_law := fun w h => zq_10 w (List.mem_append_right _ h)
theorem zq_12 : ∀ w ∈ zt_12, w ∈ wsL_law := fun w h => zq_11 w (List.mem_append_right _ h)
theorem zq_13 : ∀ w ∈ zt_13, w ∈ wsL_law := fun w h => zq_12 w (List.mem_append_right _ h)
theorem zq_14 : ∀ w ∈ zt_14, w ∈ wsL_law := fun w h => zq_13 w (List.mem_append_right _ h)
theorem zq_15 : ∀ w ∈ zt_15, w ∈ wsL_law := fun w h => zq_14 w (List.mem_append_right _ h)
theorem zq_16 : ∀ w ∈ zt_16, w ∈ wsL_law := fun w h => zq_15 w (List.mem_append_right _ h)
theorem zq_17 : ∀ w ∈ zt_17, w ∈ wsL_law := fun w h => zq_16 w (List.mem_append_right _ h)
theorem zq_18 : ∀ w ∈ zt_18, w ∈ wsL_law := fun w h => zq_17 w (List.mem_append_right _ h)
theorem zq_19 : ∀ w ∈ zt_19, w ∈ wsL_law := fun w h => zq_18 w (List.mem_append_right _ h)
theorem zq_20 : ∀ w ∈ zt_20, w ∈ wsL_law := fun w h => zq_19 w (List.mem_append_right _ h)
theorem zq_21 : ∀ w ∈ zt_21, w ∈ wsL_law := fun w h => zq_20 w (List.mem_append_right _ h)
theorem zq_22 : ∀ w ∈ zt_22, w ∈ wsL_law := fun w h => zq_21 w (List.mem_append_right _ h)
theorem zq_23 : ∀ w ∈ zt_23, w ∈ wsL_law := fun w h => zq_22 w (List.mem_append_right _ h)
theorem zq_24 : ∀ w ∈ zt_24, w ∈ wsL_law := fun w h => zq_23 w (List.mem_append_right _ h)
theorem zq_25 : ∀ w ∈ zt_25, w ∈ wsL_law := fun w h => zq_24 w (List.mem_append_right _ h)
theorem zq_26 : ∀ w ∈ zt_26, w ∈ wsL_law := fun w h => zq_25 w (List.mem_append_right _ h)
theorem zq_27 : ∀ w ∈ zt_27, w ∈ wsL_law := fun w h => zq_26 w (List.mem_append_right _ h)
theorem zq_28 : ∀ w ∈ zt_28, w ∈ wsL_law := fun w h => zq_27 w (List.mem_append_right _ h)
theorem zq_29 : ∀ w ∈ zt_29, w ∈ wsL_law := fun w h => zq_28 w (List.mem_append_right _ h)
theorem zq_30 : ∀ w ∈ zt_30, w ∈ wsL_law := fun w h => zq_29 w (List.mem_append_right _ h)
theorem zq_31 : ∀ w ∈ zt_31, w ∈ wsL_law := fun w h => zq_30 w (List.mem_append_right _ h)
theorem zq_32 : ∀ w ∈ zt_32, w ∈ wsL_law := fun w h => zq_31 w (List.mem_append_right _ h)
theorem zq_33 : ∀ w ∈ zt_33, w ∈ wsL_law := fun w h => zq_32 w (List.mem_append_right _ h)
theorem zq_34 : ∀ w ∈ zt_34, w ∈ wsL_law := fun w h => zq_33 w (List.mem_append_right _ h)
theorem zq_35 : ∀ w ∈ zt_35, w ∈ wsL_law := fun w h => zq_34 w (List.mem_append_right _ h)
theorem zq_36 : ∀ w ∈ zt_36, w ∈ wsL_law := fun w h => zq_35 w (List.mem_append_right _ h)
theorem zq_37 : ∀ w ∈ zt_37, w ∈ wsL_law := fun w h => zq_36 w (List.mem_append_right _ h)
theorem zq_38 : ∀ w ∈ zt_38, w ∈ wsL_law := fun w h => zq_37 w (List.mem_append_right _ h)
theorem zq_39 : ∀ w ∈ zt_39, w ∈ wsL_law := fun w h => zq_38 w (List.mem_append_right _ h)
theorem zq_40 : ∀ w ∈ zt_40, w ∈ wsL_law := fun w h => zq_39 w (List.mem_append_right _ h)
theorem zq_41 : ∀ w ∈ zt_41, w ∈ wsL_law := fun w h => zq_40 w (List.mem_append_right _ h)
theorem zq_42 : ∀ w ∈ zt_42, w ∈ wsL_law := fun w h => zq_41 w (List.mem_append_right _ h)
theorem zq_43 : ∀ w ∈ zt_43, w ∈ wsL_law := fun w h => zq_42 w (List.mem_append_right _ h)
theorem zq_44 : ∀ w ∈ zt_44, w ∈ wsL_law := fun w h => zq_43 w (List.mem_append_right _ h)
theorem zq_45 : ∀ w ∈ zt_45, w ∈ wsL_law := fun w h => zq_44 w (List.mem_append_right _ h)
theorem zq_46 : ∀ w ∈ zt_46, w ∈ wsL_law := fun w h => zq_45 w (List.mem_append_right _ h)
theorem zq_47 : ∀ w ∈ zt_47, w ∈ wsL_law := fun w h => zq_46 w (List.mem_append_right _ h)
theorem zq_48 : ∀ w ∈ zt_48, w ∈ wsL_law := fun w h => zq_47 w (List.mem_append_right _ h)
theorem zq_49 : ∀ w ∈ zt_49, w ∈ wsL_law := fun w h => zq_48 w (List.mem_append_right _ h)
theorem zq_50 : ∀ w ∈ zt_50, w ∈ wsL_law := fun w h => zq_49 w (List.mem_append_right _ h)
theorem zq_51 : ∀ w ∈ zt_51, w ∈ wsL_law := fun w h => zq_50 w (List.mem_append_right _ h)
theorem zr_1 : ∀ w ∈ wsL_law_r1, w ∈ wsL_law := fun w h => zq_1 w (List.mem_append_left _ h)
theorem zgw_1 : wsL_law_r1.all goodWord = true := by decide +kernel
theorem zr_2 : ∀ w ∈ wsL_law_r2, w ∈ wsL_law := fun w h => zq_2 w (List.mem_append_left _ h)
theorem zgw_2 : wsL_law_r2.all goodWord = true := by decide +kernel
theorem zr_3 : ∀ w ∈ wsL_law_r3, w ∈ wsL_law := fun w h => zq_3 w (List.mem_append_left _ h)
theorem zgw_3 : wsL_law_r3.all goodWord = true := by decide +kernel
theorem zr_4 : ∀ w ∈ wsL_law_r4, w ∈ wsL_law := fun w h => zq_4 w (List.mem_append_left _ h)
theorem zgw_4 : wsL_law_r4.all goodWord = true := by decide +kernel
theorem zr_5 : ∀ w ∈ wsL_law_r5, w ∈ wsL_law := fun w h => zq_5 w (List.mem_append_left _ h)
theorem zgw_5 : wsL_law_r5.all goodWord = true := by decide +kernel
theorem zr_6 : ∀ w ∈ wsL_law_r6, w ∈ wsL_law := fun w h => zq_6 w (List.mem_append_left _ h)
theorem zgw_6 : wsL_law_r6.all goodWord = true := by decide +kernel
theorem zr_7 : ∀ w ∈ wsL_law_r7, w ∈ wsL_law := fun w h => zq_7 w (List.mem_append_left _ h)
theorem zgw_7 : wsL_law_r7.all goodWord = true := by decide +kernel
theorem zr_8 : ∀ w ∈ wsL_law_r8, w ∈ wsL_law := fun w h => zq_8 w (List.mem_append_left _ h)
theorem zgw_8 : wsL_law_r8.all goodWord = true := by decide +kernel
theorem zr_9 : ∀ w ∈ wsL_law_r9, w ∈ wsL_law := fun w h => zq_9 w (List.mem_append_left _ h)
theorem zgw_9 : wsL_law_r9.all goodWord = true := by decide +kernel
theorem zr_10 : ∀ w ∈ wsL_law_r10, w ∈ wsL_law := fun w h => zq_10 w (List.mem_append_left _ h)
theorem zgw_10 : wsL_law_r10.all goodWord = true := by decide +kernel
theorem zr_11 : ∀ w ∈ wsL_law_r11, w ∈ wsL_law := fun w h => zq_11 w (List.mem_append_left _ h)
theorem zgw_11 : wsL_law_r11.all goodWord = true := by decide +kernel
theorem zr_12 : ∀ w ∈ wsL_law_r12, w ∈ wsL_law := fun w h => zq_12 w (List.mem_append_left _ h)
theorem zgw_12 : wsL_law_r12.all goodWord = true := by decide +kernel
theorem zr_13 : ∀ w ∈ wsL_law_r13, w ∈ wsL_law := fun w h => zq_13 w (List.mem_append_left _ h)
theorem zgw_13 : wsL_law_r13.all goodWord = true := by decide +kernel
theorem zr_14 : ∀ w ∈ wsL_law_r14, w ∈ wsL_law := fun w h => zq_14 w (List.mem_append_left _ h)
theorem zgw_14 : wsL_law_r14.all goodWord = true := by decide +kernel
theorem zr_15 : ∀ w ∈ wsL_law_r15, w ∈ wsL_law := fun w h => zq_15 w (List.mem_append_left _ h)
theorem zgw_15 : wsL_law_r15.all goodWord = true := by decide +kernel
theorem zr_16 : ∀ w ∈ wsL_law_r16, w ∈ wsL_law := fun w h => zq_16 w (List.mem_append_left _ h)
theorem zgw_16 : wsL_law_r16.all goodWord = true := by decide +kernel
theorem zr_17 : ∀ w ∈ wsL_law_r17, w ∈ wsL_law := fun w h => zq_17 w (List.mem_append_left _ h)
theorem zgw_17 : wsL_law_r17.all goodWord = true := by decide +kernel
theorem zr_18 : ∀ w ∈ wsL_law_r18, w ∈ wsL_law := fun w h => zq_18 w (List.mem_append_left _ h)
theorem zgw_18 : wsL_law_r18.all goodWord = true := by decide +kernel
theorem zr_19 : ∀ w ∈ wsL_law_r19, w ∈ wsL_law := fun w h => zq_19 w (List.mem_append_left _ h)
theorem zgw_19 : wsL_law_r19.all goodWord = true := by decide +kernel
theorem zr_20 : ∀ w ∈ wsL_law_r20, w ∈ wsL_law := fun w h => zq_20 w (List.mem_append_left _ h)
theorem zgw_20 : wsL_law_r20.all goodWord = true := by decide +kernel
theorem zr_21 : ∀ w ∈ wsL_law_r21, w ∈ wsL_law := fun w h => zq_21 w (List.mem_append_left _ h)
theorem zgw_21 : wsL_law_r21.all goodWord = true := by decide +kernel
theorem zr_22 : ∀ w ∈ wsL_law_r22, w ∈ wsL_law := fun w h => zq_22 w (List.mem_append_left _ h)
theorem zgw_22 : wsL_law_r22.all goodWord = true := by decide +kernel
theorem zr_23 : ∀ w ∈ wsL_law_r23, w ∈ wsL_law := fun w h => zq_23 w (List.mem_append_left _ h)
theorem zgw_23 : wsL_law_r23.all goodWord = true := by decide +kernel
theorem zr_24 : ∀ w ∈ wsL_law_r24, w ∈ wsL_law := fun w h => zq_24 w (List.mem_append_left _ h)
theorem zgw_24 : wsL_law_r24.all goodWord = true := by decide +kernel
theorem zr_25 : ∀ w ∈ wsL_law_r25, w ∈ wsL_law := fun w h => zq_25 w (List.mem_append_left _ h)
theorem zgw_25 : wsL_law_r25.all goodWord = true := by decide +kernel
theorem zr_26 : ∀ w ∈ wsL_law_r26, w ∈ wsL_law := fun w h => zq_26 w (List.mem_append_left _ h)
theorem zgw_26 : wsL_law_r26.all goodWord = true := by decide +kernel
theorem zr_27 : ∀ w ∈ wsL_law_r27, w ∈ wsL_law := fun w h => zq_27 w (List.mem_append_left _ h)
theorem zgw_27 : wsL_law_r27.all goodWord = true := by decide +kernel
theorem zr_28 : ∀ w ∈ wsL_law_r28, w ∈ wsL_law := fun w h => zq_28 w (List.mem_append_left _ h)
theorem zgw_28 : wsL_law_r28.all goodWord = true := by decide +kernel
theorem zr_29 : ∀ w ∈ wsL_law_r29, w ∈ wsL_law := fun w h => zq_29 w (List.mem_append_left _ h)
theorem zgw_29 : wsL_law_r29.all goodWord = true := by decide +kernel
theorem zr_30 : ∀ w ∈ wsL_law_r30, w ∈ wsL_law := fun w h => zq_30 w (List.mem_append_left _ h)
theorem zgw_30 : wsL_law_r30.all goodWord = true := by decide +kernel
theorem zr_31 : ∀ w ∈ wsL_law_r31, w ∈ wsL_law := fun w h => zq_31 w (List.mem_append_left _ h)
theorem zgw_31 : wsL_law_r31.all goodWord = true := by decide +kernel
theorem zr_32 : ∀ w ∈ wsL_law_r32, w ∈ wsL_law := fun w h => zq_32 w (List.mem_append_left _ h)
theorem zgw_32 : wsL_law_r32.all goodWord = true := by decide +kernel
theorem zr_33 : ∀ w ∈ wsL_law_r33, w ∈ wsL_law := fun w h => zq_33 w (List.mem_append_left _ h)
theorem zgw_33 : wsL_law_r33.all goodWord = true := by decide +kernel
theorem zr_34 : ∀ w ∈ wsL_law_r34, w ∈ wsL_law := fun w h => zq_34 w (List.mem_append_left _ h)
theorem zgw_34 : wsL_law_r34.all goodWord = true := by decide +kernel
theorem zr_35 : ∀ w ∈ wsL_law_r35, w ∈ wsL_law := fun w h => zq_35 w (List.mem_append_left _ h)
theorem zgw_35 : wsL_law_r35.all goodWord = true := by decide +kernel
theorem zr_36 : ∀ w ∈ wsL_law_r36, w ∈ wsL_law := fun w h => zq_36 w (List.mem_append_left _ h)
theorem zgw_36 : wsL_law_r36.all goodWord = true := by decide +kernel
theorem zr_37 : ∀ w ∈ wsL_law_r37, w ∈ wsL_law := fun w h => zq_37 w (List.mem_append_left _ h)
theorem zgw_37 : wsL_law_r37.all goodWord = true := by decide +kernel
theorem zr_38 : ∀ w ∈ wsL_law_r38, w ∈ wsL_law := fun w h => zq_38 w (List.mem_append_left _ h)
theorem zgw_38 : wsL_law_r38.all goodWord = true := by decide +kernel
theorem zr_39 : ∀ w ∈ wsL_law_r39, w ∈ wsL_law := fun w h => zq_39 w (List.mem_append_left _ h)
theorem zgw_39 : wsL_law_r39.all goodWord = true := by decide +kernel
theorem zr_40 : ∀ w ∈ wsL_law_r40, w ∈ wsL_law := fun w h => zq_40 w (List.mem_append_left _ h)
theorem zgw_40 : wsL_law_r40.all goodWord = true := by decide +kernel
theorem zr_41 : ∀ w ∈ wsL_law_r41, w ∈ wsL_law := fun w h => zq_41 w (List.mem_append_left _ h)
theorem zgw_41 : wsL_law_r41.all goodWord = true := by decide +kernel
theorem zr_42 : ∀ w ∈ wsL_law_r42, w ∈ wsL_law := fun w h => zq_42 w (List.mem_append_left _ h)
theorem zgw_42 : wsL_law_r42.all goodWord = true := by decide +kernel
theorem zr_43 : ∀ w ∈ wsL_law_r43, w ∈ wsL_law := fun w h => zq_43 w (List.mem_append_left _ h)
theorem zgw_43 : wsL_law_r43.all goodWord = true := by decide +kernel
theorem zr_44 : ∀ w ∈ wsL_law_r44, w ∈ wsL_law := fun w h => zq_44 w (List.mem_append_left _ h)
theorem zgw_44 : wsL_law_r44.all goodWord = true := by decide +kernel
theorem zr_45 : ∀ w ∈ wsL_law_r45, w ∈ wsL_law := fun w h => zq_45 w (List.mem_append_left _ h)
theorem zgw_45 : wsL_law_r45.all goodWord = true := by decide +kernel
theorem zr_46 : ∀ w ∈ wsL_law_r46, w ∈ wsL_law := fun w h => zq_46 w (List.mem_append_left _ h)
theorem zgw_46 : wsL_law_r46.all goodWord = true := by decide +kernel
theorem zr_47 : ∀ w ∈ wsL_law_r47, w ∈ wsL_law := fun w h => zq_47 w (List.mem_append_left _ h)
theorem zgw_47 : wsL_law_r47.all goodWord = true := by decide +kernel
theorem zr_48 : ∀ w ∈ wsL_law_r48, w ∈ wsL_law := fun w h => zq_48 w (List.mem_append_left _ h)
theorem zgw_48 : wsL_law_r48.all goodWord = true := by decide +kernel
theorem zr_49 : ∀ w ∈ wsL_law_r49, w ∈ wsL_law := fun w h => zq_49 w (List.mem_append_left _ h)
theorem zgw_49 : wsL_law_r49.all goodWord = true := by decide +kernel
theorem zr_50 : ∀ w ∈ wsL_law_r50, w ∈ wsL_law := fun w h => zq_50 w (List.mem_append_left _ h)
theorem zgw_50 : wsL_law_r50.all goodWord = true := by decide +kernel
theorem zr_51 : ∀ w ∈ wsL_law_r51, w ∈ wsL_law := fun w h => zq_51 w h
theorem zgw_51 : wsL_law_r51.all goodWord = true := by decide +kernel
theorem zgwsX70 : wsX70.all goodWord = true := by decide +kernel
theorem zgwsX80 : wsX80.all goodWord = true := by decide +kernel
theorem zgwsX60 : wsX60.all goodWord = true := by decide +kernel
theorem zgwsX20 : wsX20.all goodWord = true := by decide +kernel
theorem zgwsX10 : wsX10.all goodWord = true := by decide +kernel
theorem zgwsX00 : wsX00.all goodWord = true := by decide +kernel
theorem zgwsX40 : wsX40.all goodWord = true := by decide +kernel
theorem zgwsX30 : wsX30.all goodWord = true := by decide +kernel
theorem zgwsX50 : wsX50.all goodWord = true := by decide +kernel
theorem zgt_51 : zt_51.all goodWord = true := zgw_51
theorem zgt_50 : zt_50.all goodWord = true := by unfold zt_50; rw [List.all_append, zgw_50, zgt_51]; rfl
theorem zgt_49 : zt_49.all goodWord = true := by unfold zt_49; rw [List.all_append, zgw_49, zgt_50]; rfl
theorem zgt_48 : zt_48.all goodWord = true := by unfold zt_48; rw [List.all_append, zgw_48, zgt_49]; rfl
theorem zgt_47 : zt_47.all goodWord = true := by unfold zt_47; rw [List.all_append, zgw_47, zgt_48]; rfl
theorem zgt_46 : zt_46.all goodWord = true := by unfold zt_46; rw [List.all_append, zgw_46, zgt_47]; rfl
theorem zgt_45 : zt_45.all goodWord = true := by unfold zt_45; rw [List.all_append, zgw_45, zgt_46]; rfl
theorem zgt_44 : zt_44.all goodWord = true := by unfold zt_44; rw [List.all_append, zgw_44, zgt_45]; rfl
theorem zgt_43 : zt_43.all goodWord = true := by unfold zt_43; rw [List.all_append, zgw_43, zgt_44]; rfl
theorem zgt_42 : zt_42.all goodWord = true := by unfold zt_42; rw [List.all_append, zgw_42, zgt_43]; rfl
theorem zgt_41 : zt_41.all goodWord = true := by unfold zt_41; rw [List.all_append, zgw_41, zgt_42]; rfl
theorem zgt_40 : zt_40.all goodWord = true := by unfold zt_40; rw [List.all_append, zgw_40, zgt_41]; rfl
theorem zgt_39 : zt_39.all goodWord = true := by unfold zt_39; rw [List.all_append, zgw_39, zgt_40]; rfl
theorem zgt_38 : zt_38.all goodWord = true := by unfold zt_38; rw [List.all_append, zgw_38, zgt_39]; rfl
theorem zgt_37 : zt_37.all goodWord = true := by unfold zt_37; rw [List.all_append, zgw_37, zgt_38]; rfl
theorem zgt_36 : zt_36.all goodWord = true := by unfold zt_36; rw [List.all_append, zgw_36, zgt_37]; rfl
theorem zgt_35 : zt_35.all goodWord = true := by unfold zt_35; rw [List.all_append, zgw_35, zgt_36]; rfl
theorem zgt_34 : zt_34.all goodWord = true := by unfold zt_34; rw [List.all_append, zgw_34, zgt_35]; rfl
theorem zgt_33 : zt_33.all goodWord = true := by unfold zt_33; rw [List.all_append, zgw_33, zgt_34]; rfl
theorem zgt_32 : zt_32.all goodWord = true := by unfold zt_32; rw [List.all_append, zgw_32, zgt_33]; rfl
theorem zgt_31 : zt_31.all goodWord = true := by unfold zt_31; rw [List.all_append, zgw_31, zgt_32]; rfl
theorem zgt_30 : zt_30.all goodWord = true := by unfold zt_30; rw [List.all_append, zgw_30, zgt_31]; rfl
theorem zgt_29 : zt_29.all goodWord = true := by unfold zt_29; rw [List.all_append, zgw_29, zgt_30]; rfl
theorem zgt_28 : zt_28.all goodWord = true := by unfold zt_28; rw [List.all_append, zgw_28, zgt_29]; rfl
theorem zgt_27 : zt_27.all goodWord = true := by unfold zt_27; rw [List.all_append, zgw_27, zgt_28]; rfl
theorem zgt_26 : zt_26.all goodWord = true := by unfold zt_26; rw [List.all_append, zgw_26, zgt_27]; rfl
theorem zgt_25 : zt_25.all goodWord = true := by unfold zt_25; rw [List.all_append, zgw_25, zgt_26]; rfl
theorem zgt_24 : zt_24.all goodWord = true := by unfold zt_24; rw [List.all_append, zgw_24, zgt_25]; rfl
theorem zgt_23 : zt_23.all goodWord = true := by unfold zt_23; rw [List.all_append, zgw_23, zgt_24]; rfl
theorem zgt_22 : zt_22.all goodWord = true := by unfold zt_22; rw [List.all_append, zgw_22, zgt_23]; rfl
theorem zgt_21 : zt_21.all goodWord = true := by unfold zt_21; rw [List.all_append, zgw_21, zgt_22]; rfl
theorem zgt_20 : zt_20.all goodWord = true := by unfold zt_20; rw [List.all_append, zgw_20, zgt_21]; rfl
theorem zgt_19 : zt_19.all goodWord = true := by unfold zt_19; rw [List.all_append, zgw_19, zgt_20]; rfl
theorem zgt_18 : zt_18.all goodWord = true := by unfold zt_18; rw [List.all_append, zgw_18, zgt_19]; rfl
theorem zgt_17 : zt_17.all goodWord = true := by unfold zt_17; rw [List.all_append, zgw_17, zgt_18]; rfl
theorem zgt_16 : zt_16.all goodWord = true := by unfold zt_16; rw [List.all_append, zgw_16, zgt_17]; rfl
theorem zgt_15 : zt_15.all goodWord = true := by unfold zt_15; rw [List.all_append, zgw_15, zgt_16]; rfl
theorem zgt_14 : zt_14.all goodWord = true := by unfold zt_14; rw [List.all_append, zgw_14, zgt_15]; rfl
theorem zgt_13 : zt_13.all goodWord = true := by unfold zt_13; rw [List.all_append, zgw_13, zgt_14]; rfl
theorem zgt_12 : zt_12.all goodWord = true := by unfold zt_12; rw [List.all_append, zgw_12, zgt_13]; rfl
theorem zgt_11 : zt_11.all goodWord = true := by unfold zt_11; rw [List.all_append, zgw_11, zgt_12]; rfl
theorem zgt_10 : zt_10.all goodWord = true := by unfold zt_10; rw [List.all_append, zgw_10, zgt_11]; rfl
theorem zgt_9 : zt_9.all goodWord = true := by unfold zt_9; rw [List.all_append, zgw_9, zgt_10]; rfl
theorem zgt_8 : zt_8.all goodWord = true := by unfold zt_8; rw [List.all_append, zgw_8, zgt_9]; rfl
theorem zgt_7 : zt_7.all goodWord = true := by unfold zt_7; rw [List.all_append, zgw_7, zgt_8]; rfl
theorem zgt_6 : zt_6.all goodWord = true := by unfold zt_6; rw [List.all_append, zgw_6, zgt_7]; rfl
theorem zgt_5 : zt_5.all goodWord = true := by unfold zt_5; rw [List.all_append, zgw_5, zgt_6]; rfl
theorem zgt_4 : zt_4.all goodWord = true := by unfold zt_4; rw [List.all_append, zgw_4, zgt_5]; rfl
theorem zgt_3 : zt_3.all goodWord = true := by unfold zt_3; rw [List.all_append, zgw_3, zgt_4]; rfl
theorem zgt_2 : zt_2.all goodWord = true := by unfold zt_2; rw [List.all_append, zgw_2, zgt_3]; rfl
theorem zgt_1 : zt_1.all goodWord = true := by unfold zt_1; rw [List.all_append, zgw_1, zgt_2]; rfl
theorem zGood : ∀ w ∈ wsL_law, (w.onTables && w.keeps) = true ∨ ∃ ty, w = .arrayClass ty := by
  have h : (zt_1 ++ wsX70 ++ wsX80 ++ wsX60 ++ wsX20 ++ wsX10 ++ wsX00 ++ wsX40 ++ wsX30 ++ wsX50 ++ ([] : List Cond)).all goodWord = true := by
    rw [List.all_append, List.all_append, List.all_append, List.all_append, List.all_append, List.all_append, List.all_append, List.all_append, List.all_append, List.all_append, zgt_1, zgwsX70, zgwsX80, zgwsX60, zgwsX20, zgwsX10, zgwsX00, zgwsX40, zgwsX30, zgwsX50]; rfl
  exact fun w hw => good_of_word (List.all_eq_true.mp h w hw)
