theorem zlw_1 : Cond.methodLink RL 13 yX7_like ∈ wsL_law := zr_7 _ (by decide +kernel)
theorem zlw_2 : Cond.instanceMethod yX7_like ∈ wsL_law := zr_7 _ (by decide +kernel)
theorem zlw_3 : Cond.selects RX7 yX7_like yX7_like ∈ wsL_law := zr_7 _ (by decide +kernel)
theorem zlw_4 : Cond.initialized RX7 ∈ wsL_law := zr_1 _ (by decide +kernel)
theorem zlw_5 : Cond.code yX7_like cX7_like 5 (some .int) ∈ wsL_law := zr_7 _ (by decide +kernel)
theorem hkL_13 : ∀ w ∈ ([Cond.methodLink RL 13 yX7_like, Cond.instanceMethod yX7_like, Cond.selects RX7 yX7_like yX7_like, Cond.initialized RX7, Cond.code yX7_like cX7_like 5 (some .int)] : List Cond), w ∈ wsL_law := List.forall_mem_cons.mpr ⟨zlw_1, List.forall_mem_cons.mpr ⟨zlw_2, List.forall_mem_cons.mpr ⟨zlw_3, List.forall_mem_cons.mpr ⟨zlw_4, List.forall_mem_cons.mpr ⟨zlw_5, fun _ h => absurd h List.not_mem_nil⟩⟩⟩⟩⟩
theorem hdL_X7_like : yX7_like.cls = RX7 ∧ yX7_like.cls ≠ "java/lang/invoke/MethodHandle" ∧ yX7_like.cls ≠ "java/lang/invoke/VarHandle" ∧ (parseMethodDescriptor yX7_like.desc).map (fun d => d.parameters.length) = some 3 := by decide +kernel
theorem zlw_6 : Cond.methodLink RL 17 yX8_like ∈ wsL_law := zr_7 _ (by decide +kernel)
theorem zlw_7 : Cond.instanceMethod yX8_like ∈ wsL_law := zr_7 _ (by decide +kernel)
theorem zlw_8 : Cond.selects RX8 yX8_like yX8_like ∈ wsL_law := zr_7 _ (by decide +kernel)
theorem zlw_9 : Cond.initialized RX8 ∈ wsL_law := zr_1 _ (by decide +kernel)
theorem zlw_10 : Cond.code yX8_like cX8_like 5 (some .int) ∈ wsL_law := zr_7 _ (by decide +kernel)
theorem hkL_17 : ∀ w ∈ ([Cond.methodLink RL 17 yX8_like, Cond.instanceMethod yX8_like, Cond.selects RX8 yX8_like yX8_like, Cond.initialized RX8, Cond.code yX8_like cX8_like 5 (some .int)] : List Cond), w ∈ wsL_law := List.forall_mem_cons.mpr ⟨zlw_6, List.forall_mem_cons.mpr ⟨zlw_7, List.forall_mem_cons.mpr ⟨zlw_8, List.forall_mem_cons.mpr ⟨zlw_9, List.forall_mem_cons.mpr ⟨zlw_10, fun _ h => absurd h List.not_mem_nil⟩⟩⟩⟩⟩
theorem hdL_X8_like : yX8_like.cls = RX8 ∧ yX8_like.cls ≠ "java/lang/invoke/MethodHandle" ∧ yX8_like.cls ≠ "java/lang/invoke/VarHandle" ∧ (parseMethodDescriptor yX8_like.desc).map (fun d => d.parameters.length) = some 3 := by decide +kernel
theorem zlw_11 : Cond.methodLink RL 18 yX7_set ∈ wsL_law := zr_7 _ (by decide +kernel)
theorem zlw_12 : Cond.instanceMethod yX7_set ∈ wsL_law := zr_7 _ (by decide +kernel)
theorem zlw_13 : Cond.selects RX7 yX7_set yX7_set ∈ wsL_law := zr_7 _ (by decide +kernel)
theorem zlw_14 : Cond.code yX7_set cX7_set 6 (some .int) ∈ wsL_law := zr_8 _ (by decide +kernel)
theorem hkL_18 : ∀ w ∈ ([Cond.methodLink RL 18 yX7_set, Cond.instanceMethod yX7_set, Cond.selects RX7 yX7_set yX7_set, Cond.initialized RX7, Cond.code yX7_set cX7_set 6 (some .int)] : List Cond), w ∈ wsL_law := List.forall_mem_cons.mpr ⟨zlw_11, List.forall_mem_cons.mpr ⟨zlw_12, List.forall_mem_cons.mpr ⟨zlw_13, List.forall_mem_cons.mpr ⟨zlw_4, List.forall_mem_cons.mpr ⟨zlw_14, fun _ h => absurd h List.not_mem_nil⟩⟩⟩⟩⟩
theorem hdL_X7_set : yX7_set.cls = RX7 ∧ yX7_set.cls ≠ "java/lang/invoke/MethodHandle" ∧ yX7_set.cls ≠ "java/lang/invoke/VarHandle" ∧ (parseMethodDescriptor yX7_set.desc).map (fun d => d.parameters.length) = some 3 := by decide +kernel
theorem zlw_15 : Cond.methodLink RL 21 yX8_set ∈ wsL_law := zr_8 _ (by decide +kernel)
theorem zlw_16 : Cond.instanceMethod yX8_set ∈ wsL_law := zr_9 _ (by decide +kernel)
theorem zlw_17 : Cond.selects RX8 yX8_set yX8_set ∈ wsL_law := zr_9 _ (by decide +kernel)
theorem zlw_18 : Cond.code yX8_set cX8_set 5 (some .int) ∈ wsL_law := zr_9 _ (by decide +kernel)
theorem hkL_21 : ∀ w ∈ ([Cond.methodLink RL 21 yX8_set, Cond.instanceMethod yX8_set, Cond.selects RX8 yX8_set yX8_set, Cond.initialized RX8, Cond.code yX8_set cX8_set 5 (some .int)] : List Cond), w ∈ wsL_law := List.forall_mem_cons.mpr ⟨zlw_15, List.forall_mem_cons.mpr ⟨zlw_16, List.forall_mem_cons.mpr ⟨zlw_17, List.forall_mem_cons.mpr ⟨zlw_9, List.forall_mem_cons.mpr ⟨zlw_18, fun _ h => absurd h List.not_mem_nil⟩⟩⟩⟩⟩
theorem hdL_X8_set : yX8_set.cls = RX8 ∧ yX8_set.cls ≠ "java/lang/invoke/MethodHandle" ∧ yX8_set.cls ≠ "java/lang/invoke/VarHandle" ∧ (parseMethodDescriptor yX8_set.desc).map (fun d => d.parameters.length) = some 3 := by decide +kernel
theorem zlw_19 : Cond.methodLink RL 22 yX7_asker ∈ wsL_law := zr_19 _ (by decide +kernel)
theorem zlw_20 : Cond.instanceMethod yX7_asker ∈ wsL_law := zr_20 _ (by decide +kernel)
theorem zlw_21 : Cond.selects RX7 yX7_asker yX7_asker ∈ wsL_law := zr_20 _ (by decide +kernel)
theorem zlw_22 : Cond.code yX7_asker cX7_asker 4 (some .int) ∈ wsL_law := zr_20 _ (by decide +kernel)
theorem hkL_22 : ∀ w ∈ ([Cond.methodLink RL 22 yX7_asker, Cond.instanceMethod yX7_asker, Cond.selects RX7 yX7_asker yX7_asker, Cond.initialized RX7, Cond.code yX7_asker cX7_asker 4 (some .int)] : List Cond), w ∈ wsL_law := List.forall_mem_cons.mpr ⟨zlw_19, List.forall_mem_cons.mpr ⟨zlw_20, List.forall_mem_cons.mpr ⟨zlw_21, List.forall_mem_cons.mpr ⟨zlw_4, List.forall_mem_cons.mpr ⟨zlw_22, fun _ h => absurd h List.not_mem_nil⟩⟩⟩⟩⟩
theorem hdL_X7_asker : yX7_asker.cls = RX7 ∧ yX7_asker.cls ≠ "java/lang/invoke/MethodHandle" ∧ yX7_asker.cls ≠ "java/lang/invoke/VarHandle" ∧ (parseMethodDescriptor yX7_asker.desc).map (fun d => d.parameters.length) = some 2 := by decide +kernel
theorem zlw_23 : Cond.methodLink RL 26 yX8_asker ∈ wsL_law := zr_20 _ (by decide +kernel)
theorem zlw_24 : Cond.instanceMethod yX8_asker ∈ wsL_law := zr_20 _ (by decide +kernel)
theorem zlw_25 : Cond.selects RX8 yX8_asker yX8_asker ∈ wsL_law := zr_20 _ (by decide +kernel)
theorem zlw_26 : Cond.code yX8_asker cX8_asker 3 (some .int) ∈ wsL_law := zr_20 _ (by decide +kernel)
theorem hkL_26 : ∀ w ∈ ([Cond.methodLink RL 26 yX8_asker, Cond.instanceMethod yX8_asker, Cond.selects RX8 yX8_asker yX8_asker, Cond.initialized RX8, Cond.code yX8_asker cX8_asker 3 (some .int)] : List Cond), w ∈ wsL_law := List.forall_mem_cons.mpr ⟨zlw_23, List.forall_mem_cons.mpr ⟨zlw_24, List.forall_mem_cons.mpr ⟨zlw_25, List.forall_mem_cons.mpr ⟨zlw_9, List.forall_mem_cons.mpr ⟨zlw_26, fun _ h => absurd h List.not_mem_nil⟩⟩⟩⟩⟩
theorem hdL_X8_asker : yX8_asker.cls = RX8 ∧ yX8_asker.cls ≠ "java/lang/invoke/MethodHandle" ∧ yX8_asker.cls ≠ "java/lang/invoke/VarHandle" ∧ (parseMethodDescriptor yX8_asker.desc).map (fun d => d.parameters.length) = some 2 := by decide +kernel
theorem zlw_27 : Cond.methodLink RL 27 yX7_told ∈ wsL_law := zr_20 _ (by decide +kernel)
theorem zlw_28 : Cond.instanceMethod yX7_told ∈ wsL_law := zr_20 _ (by decide +kernel)
theorem zlw_29 : Cond.selects RX7 yX7_told yX7_told ∈ wsL_law := zr_20 _ (by decide +kernel)
theorem zlw_30 : Cond.code yX7_told cX7_told 4 (some .int) ∈ wsL_law := zr_20 _ (by decide +kernel)
theorem hkL_27 : ∀ w ∈ ([Cond.methodLink RL 27 yX7_told, Cond.instanceMethod yX7_told, Cond.selects RX7 yX7_told yX7_told, Cond.initialized RX7, Cond.code yX7_told cX7_told 4 (some .int)] : List Cond), w ∈ wsL_law := List.forall_mem_cons.mpr ⟨zlw_27, List.forall_mem_cons.mpr ⟨zlw_28, List.forall_mem_cons.mpr ⟨zlw_29, List.forall_mem_cons.mpr ⟨zlw_4, List.forall_mem_cons.mpr ⟨zlw_30, fun _ h => absurd h List.not_mem_nil⟩⟩⟩⟩⟩
theorem hdL_X7_told : yX7_told.cls = RX7 ∧ yX7_told.cls ≠ "java/lang/invoke/MethodHandle" ∧ yX7_told.cls ≠ "java/lang/invoke/VarHandle" ∧ (parseMethodDescriptor yX7_told.desc).map (fun d => d.parameters.length) = some 2 := by decide +kernel
theorem zlw_31 : Cond.methodLink RL 30 yX8_told ∈ wsL_law := zr_25 _ (by decide +kernel)
theorem zlw_32 : Cond.instanceMethod yX8_told ∈ wsL_law := zr_9 _ (by decide +kernel)
theorem zlw_33 : Cond.selects RX8 yX8_told yX8_told ∈ wsL_law := zr_9 _ (by decide +kernel)
theorem zlw_34 : Cond.code yX8_told cX8_told 3 (some .int) ∈ wsL_law := zr_9 _ (by decide +kernel)
theorem hkL_30 : ∀ w ∈ ([Cond.methodLink RL 30 yX8_told, Cond.instanceMethod yX8_told, Cond.selects RX8 yX8_told yX8_told, Cond.initialized RX8, Cond.code yX8_told cX8_told 3 (some .int)] : List Cond), w ∈ wsL_law := List.forall_mem_cons.mpr ⟨zlw_31, List.forall_mem_cons.mpr ⟨zlw_32, List.forall_mem_cons.mpr ⟨zlw_33, List.forall_mem_cons.mpr ⟨zlw_9, List.forall_mem_cons.mpr ⟨zlw_34, fun _ h => absurd h List.not_mem_nil⟩⟩⟩⟩⟩
theorem hdL_X8_told : yX8_told.cls = RX8 ∧ yX8_told.cls ≠ "java/lang/invoke/MethodHandle" ∧ yX8_told.cls ≠ "java/lang/invoke/VarHandle" ∧ (parseMethodDescriptor yX8_told.desc).map (fun d => d.parameters.length) = some 2 := by decide +kernel
theorem zlw_35 : Cond.methodLink RL 31 yX7_asks ∈ wsL_law := zr_25 _ (by decide +kernel)
theorem zlw_36 : Cond.instanceMethod yX7_asks ∈ wsL_law := zr_25 _ (by decide +kernel)
theorem zlw_37 : Cond.selects RX7 yX7_asks yX7_asks ∈ wsL_law := zr_25 _ (by decide +kernel)
theorem zlw_38 : Cond.code yX7_asks cX7_asks 5 (some .int) ∈ wsL_law := zr_25 _ (by decide +kernel)
theorem hkL_31 : ∀ w ∈ ([Cond.methodLink RL 31 yX7_asks, Cond.instanceMethod yX7_asks, Cond.selects RX7 yX7_asks yX7_asks, Cond.initialized RX7, Cond.code yX7_asks cX7_asks 5 (some .int)] : List Cond), w ∈ wsL_law := List.forall_mem_cons.mpr ⟨zlw_35, List.forall_mem_cons.mpr ⟨zlw_36, List.forall_mem_cons.mpr ⟨zlw_37, List.forall_mem_cons.mpr ⟨zlw_4, List.forall_mem_cons.mpr ⟨zlw_38, fun _ h => absurd h List.not_mem_nil⟩⟩⟩⟩⟩
theorem hdL_X7_asks : yX7_asks.cls = RX7 ∧ yX7_asks.cls ≠ "java/lang/invoke/MethodHandle" ∧ yX7_asks.cls ≠ "java/lang/invoke/VarHandle" ∧ (parseMethodDescriptor yX7_asks.desc).map (fun d => d.parameters.length) = some 3 := by decide +kernel
theorem zlw_39 : Cond.methodLink RL 34 yX8_asks ∈ wsL_law := zr_25 _ (by decide +kernel)
theorem zlw_40 : Cond.instanceMethod yX8_asks ∈ wsL_law := zr_25 _ (by decide +kernel)
theorem zlw_41 : Cond.selects RX8 yX8_asks yX8_asks ∈ wsL_law := zr_25 _ (by decide +kernel)
theorem zlw_42 : Cond.code yX8_asks cX8_asks 4 (some .int) ∈ wsL_law := zr_25 _ (by decide +kernel)
theorem hkL_34 : ∀ w ∈ ([Cond.methodLink RL 34 yX8_asks, Cond.instanceMethod yX8_asks, Cond.selects RX8 yX8_asks yX8_asks, Cond.initialized RX8, Cond.code yX8_asks cX8_asks 4 (some .int)] : List Cond), w ∈ wsL_law := List.forall_mem_cons.mpr ⟨zlw_39, List.forall_mem_cons.mpr ⟨zlw_40, List.forall_mem_cons.mpr ⟨zlw_41, List.forall_mem_cons.mpr ⟨zlw_9, List.forall_mem_cons.mpr ⟨zlw_42, fun _ h => absurd h List.not_mem_nil⟩⟩⟩⟩⟩
theorem hdL_X8_asks : yX8_asks.cls = RX8 ∧ yX8_asks.cls ≠ "java/lang/invoke/MethodHandle" ∧ yX8_asks.cls ≠ "java/lang/invoke/VarHandle" ∧ (parseMethodDescriptor yX8_asks.desc).map (fun d => d.parameters.length) = some 3 := by decide +kernel
theorem zlw_43 : Cond.methodLink RL 35 yX7_glad ∈ wsL_law := zr_26 _ (by decide +kernel)
theorem zlw_44 : Cond.instanceMethod yX7_glad ∈ wsL_law := zr_26 _ (by decide +kernel)
theorem zlw_45 : Cond.selects RX7 yX7_glad yX7_glad ∈ wsL_law := zr_26 _ (by decide +kernel)
theorem zlw_46 : Cond.code yX7_glad cX7_glad 4 (some .int) ∈ wsL_law := zr_26 _ (by decide +kernel)
theorem hkL_35 : ∀ w ∈ ([Cond.methodLink RL 35 yX7_glad, Cond.instanceMethod yX7_glad, Cond.selects RX7 yX7_glad yX7_glad, Cond.initialized RX7, Cond.code yX7_glad cX7_glad 4 (some .int)] : List Cond), w ∈ wsL_law := List.forall_mem_cons.mpr ⟨zlw_43, List.forall_mem_cons.mpr ⟨zlw_44, List.forall_mem_cons.mpr ⟨zlw_45, List.forall_mem_cons.mpr ⟨zlw_4, List.forall_mem_cons.mpr ⟨zlw_46, fun _ h => absurd h List.not_mem_nil⟩⟩⟩⟩⟩
theorem hdL_X7_glad : yX7_glad.cls = RX7 ∧ yX7_glad.cls ≠ "java/lang/invoke/MethodHandle" ∧ yX7_glad.cls ≠ "java/lang/invoke/VarHandle" ∧ (parseMethodDescriptor yX7_glad.desc).map (fun d => d.parameters.length) = some 2 := by decide +kernel
theorem zlw_47 : Cond.methodLink RL 38 yX8_glad ∈ wsL_law := zr_26 _ (by decide +kernel)
theorem zlw_48 : Cond.instanceMethod yX8_glad ∈ wsL_law := zr_26 _ (by decide +kernel)
theorem zlw_49 : Cond.selects RX8 yX8_glad yX8_glad ∈ wsL_law := zr_26 _ (by decide +kernel)
theorem zlw_50 : Cond.code yX8_glad cX8_glad 3 (some .int) ∈ wsL_law := zr_26 _ (by decide +kernel)
theorem hkL_38 : ∀ w ∈ ([Cond.methodLink RL 38 yX8_glad, Cond.instanceMethod yX8_glad, Cond.selects RX8 yX8_glad yX8_glad, Cond.initialized RX8, Cond.code yX8_glad cX8_glad 3 (some .int)] : List Cond), w ∈ wsL_law := List.forall_mem_cons.mpr ⟨zlw_47, List.forall_mem_cons.mpr ⟨zlw_48, List.forall_mem_cons.mpr ⟨zlw_49, List.forall_mem_cons.mpr ⟨zlw_9, List.forall_mem_cons.mpr ⟨zlw_50, fun _ h => absurd h List.not_mem_nil⟩⟩⟩⟩⟩
theorem hdL_X8_glad : yX8_glad.cls = RX8 ∧ yX8_glad.cls ≠ "java/lang/invoke/MethodHandle" ∧ yX8_glad.cls ≠ "java/lang/invoke/VarHandle" ∧ (parseMethodDescriptor yX8_glad.desc).map (fun d => d.parameters.length) = some 2 := by decide +kernel
theorem zlw_51 : Cond.methodLink RL 39 yX7_feed ∈ wsL_law := zr_27 _ (by decide +kernel)
theorem zlw_52 : Cond.instanceMethod yX7_feed ∈ wsL_law := zr_27 _ (by decide +kernel)
theorem zlw_53 : Cond.selects RX7 yX7_feed yX7_feed ∈ wsL_law := zr_27 _ (by decide +kernel)
theorem zlw_54 : Cond.code yX7_feed cX7_feed 2 (some .int) ∈ wsL_law := zr_27 _ (by decide +kernel)
theorem hkL_39 : ∀ w ∈ ([Cond.methodLink RL 39 yX7_feed, Cond.instanceMethod yX7_feed, Cond.selects RX7 yX7_feed yX7_feed, Cond.initialized RX7, Cond.code yX7_feed cX7_feed 2 (some .int)] : List Cond), w ∈ wsL_law := List.forall_mem_cons.mpr ⟨zlw_51, List.forall_mem_cons.mpr ⟨zlw_52, List.forall_mem_cons.mpr ⟨zlw_53, List.forall_mem_cons.mpr ⟨zlw_4, List.forall_mem_cons.mpr ⟨zlw_54, fun _ h => absurd h List.not_mem_nil⟩⟩⟩⟩⟩
theorem hdL_X7_feed : yX7_feed.cls = RX7 ∧ yX7_feed.cls ≠ "java/lang/invoke/MethodHandle" ∧ yX7_feed.cls ≠ "java/lang/invoke/VarHandle" ∧ (parseMethodDescriptor yX7_feed.desc).map (fun d => d.parameters.length) = some 1 := by decide +kernel
theorem zlw_55 : Cond.methodLink RL 43 yX8_feed ∈ wsL_law := zr_27 _ (by decide +kernel)
theorem zlw_56 : Cond.instanceMethod yX8_feed ∈ wsL_law := zr_27 _ (by decide +kernel)
theorem zlw_57 : Cond.selects RX8 yX8_feed yX8_feed ∈ wsL_law := zr_27 _ (by decide +kernel)
theorem zlw_58 : Cond.code yX8_feed cX8_feed 2 (some .int) ∈ wsL_law := zr_27 _ (by decide +kernel)
theorem hkL_43 : ∀ w ∈ ([Cond.methodLink RL 43 yX8_feed, Cond.instanceMethod yX8_feed, Cond.selects RX8 yX8_feed yX8_feed, Cond.initialized RX8, Cond.code yX8_feed cX8_feed 2 (some .int)] : List Cond), w ∈ wsL_law := List.forall_mem_cons.mpr ⟨zlw_55, List.forall_mem_cons.mpr ⟨zlw_56, List.forall_mem_cons.mpr ⟨zlw_57, List.forall_mem_cons.mpr ⟨zlw_9, List.forall_mem_cons.mpr ⟨zlw_58, fun _ h => absurd h List.not_mem_nil⟩⟩⟩⟩⟩
theorem hdL_X8_feed : yX8_feed.cls = RX8 ∧ yX8_feed.cls ≠ "java/lang/invoke/MethodHandle" ∧ yX8_feed.cls ≠ "java/lang/invoke/VarHandle" ∧ (parseMethodDescriptor yX8_feed.desc).map (fun d => d.parameters.length) = some 1 := by decide +kernel
theorem zlw_59 : Cond.methodLink RL 44 yX7_text ∈ wsL_law := zr_27 _ (by decide +kernel)
theorem zlw_60 : Cond.instanceMethod yX7_text ∈ wsL_law := zr_27 _ (by decide +kernel)
theorem zlw_61 : Cond.selects RX7 yX7_text yX7_text ∈ wsL_law := zr_27 _ (by decide +kernel)
theorem zlw_62 : Cond.code yX7_text cX7_text 3 (some .int) ∈ wsL_law := zr_27 _ (by decide +kernel)
theorem hkL_44 : ∀ w ∈ ([Cond.methodLink RL 44 yX7_text, Cond.instanceMethod yX7_text, Cond.selects RX7 yX7_text yX7_text, Cond.initialized RX7, Cond.code yX7_text cX7_text 3 (some .int)] : List Cond), w ∈ wsL_law := List.forall_mem_cons.mpr ⟨zlw_59, List.forall_mem_cons.mpr ⟨zlw_60, List.forall_mem_cons.mpr ⟨zlw_61, List.forall_mem_cons.mpr ⟨zlw_4, List.forall_mem_cons.mpr ⟨zlw_62, fun _ h => absurd h List.not_mem_nil⟩⟩⟩⟩⟩
theorem hdL_X7_text : yX7_text.cls = RX7 ∧ yX7_text.cls ≠ "java/lang/invoke/MethodHandle" ∧ yX7_text.cls ≠ "java/lang/invoke/VarHandle" ∧ (parseMethodDescriptor yX7_text.desc).map (fun d => d.parameters.length) = some 0 := by decide +kernel
theorem zlw_63 : Cond.methodLink RL 48 yX8_text ∈ wsL_law := zr_34 _ (by decide +kernel)
theorem zlw_64 : Cond.instanceMethod yX8_text ∈ wsL_law := zr_34 _ (by decide +kernel)
theorem zlw_65 : Cond.selects RX8 yX8_text yX8_text ∈ wsL_law := zr_34 _ (by decide +kernel)
theorem zlw_66 : Cond.code yX8_text cX8_text 2 (some .int) ∈ wsL_law := zr_34 _ (by decide +kernel)
theorem hkL_48 : ∀ w ∈ ([Cond.methodLink RL 48 yX8_text, Cond.instanceMethod yX8_text, Cond.selects RX8 yX8_text yX8_text, Cond.initialized RX8, Cond.code yX8_text cX8_text 2 (some .int)] : List Cond), w ∈ wsL_law := List.forall_mem_cons.mpr ⟨zlw_63, List.forall_mem_cons.mpr ⟨zlw_64, List.forall_mem_cons.mpr ⟨zlw_65, List.forall_mem_cons.mpr ⟨zlw_9, List.forall_mem_cons.mpr ⟨zlw_66, fun _ h => absurd h List.not_mem_nil⟩⟩⟩⟩⟩
theorem hdL_X8_text : yX8_text.cls = RX8 ∧ yX8_text.cls ≠ "java/lang/invoke/MethodHandle" ∧ yX8_text.cls ≠ "java/lang/invoke/VarHandle" ∧ (parseMethodDescriptor yX8_text.desc).map (fun d => d.parameters.length) = some 0 := by decide +kernel
theorem zlw_67 : Cond.methodLink RL 49 yX7_force ∈ wsL_law := zr_34 _ (by decide +kernel)
theorem zlw_68 : Cond.instanceMethod yX7_force ∈ wsL_law := zr_34 _ (by decide +kernel)
theorem zlw_69 : Cond.selects RX7 yX7_force yX7_force ∈ wsL_law := zr_34 _ (by decide +kernel)
theorem zlw_70 : Cond.code yX7_force cX7_force 3 (some .int) ∈ wsL_law := zr_34 _ (by decide +kernel)
theorem hkL_49 : ∀ w ∈ ([Cond.methodLink RL 49 yX7_force, Cond.instanceMethod yX7_force, Cond.selects RX7 yX7_force yX7_force, Cond.initialized RX7, Cond.code yX7_force cX7_force 3 (some .int)] : List Cond), w ∈ wsL_law := List.forall_mem_cons.mpr ⟨zlw_67, List.forall_mem_cons.mpr ⟨zlw_68, List.forall_mem_cons.mpr ⟨zlw_69, List.forall_mem_cons.mpr ⟨zlw_4, List.forall_mem_cons.mpr ⟨zlw_70, fun _ h => absurd h List.not_mem_nil⟩⟩⟩⟩⟩
theorem hdL_X7_force : yX7_force.cls = RX7 ∧ yX7_force.cls ≠ "java/lang/invoke/MethodHandle" ∧ yX7_force.cls ≠ "java/lang/invoke/VarHandle" ∧ (parseMethodDescriptor yX7_force.desc).map (fun d => d.parameters.length) = some 1 := by decide +kernel
theorem zlw_71 : Cond.methodLink RL 52 yX8_force ∈ wsL_law := zr_34 _ (by decide +kernel)
theorem zlw_72 : Cond.instanceMethod yX8_force ∈ wsL_law := zr_34 _ (by decide +kernel)
theorem zlw_73 : Cond.selects RX8 yX8_force yX8_force ∈ wsL_law := zr_34 _ (by decide +kernel)
theorem zlw_74 : Cond.code yX8_force cX8_force 3 (some .int) ∈ wsL_law := zr_35 _ (by decide +kernel)
theorem hkL_52 : ∀ w ∈ ([Cond.methodLink RL 52 yX8_force, Cond.instanceMethod yX8_force, Cond.selects RX8 yX8_force yX8_force, Cond.initialized RX8, Cond.code yX8_force cX8_force 3 (some .int)] : List Cond), w ∈ wsL_law := List.forall_mem_cons.mpr ⟨zlw_71, List.forall_mem_cons.mpr ⟨zlw_72, List.forall_mem_cons.mpr ⟨zlw_73, List.forall_mem_cons.mpr ⟨zlw_9, List.forall_mem_cons.mpr ⟨zlw_74, fun _ h => absurd h List.not_mem_nil⟩⟩⟩⟩⟩
theorem hdL_X8_force : yX8_force.cls = RX8 ∧ yX8_force.cls ≠ "java/lang/invoke/MethodHandle" ∧ yX8_force.cls ≠ "java/lang/invoke/VarHandle" ∧ (parseMethodDescriptor yX8_force.desc).map (fun d => d.parameters.length) = some 1 := by decide +kernel
theorem zlw_75 : Cond.methodLink RL 53 yX7_ask ∈ wsL_law := zr_35 _ (by decide +kernel)
theorem zlw_76 : Cond.instanceMethod yX7_ask ∈ wsL_law := zr_35 _ (by decide +kernel)
theorem zlw_77 : Cond.selects RX7 yX7_ask yX7_ask ∈ wsL_law := zr_35 _ (by decide +kernel)
theorem zlw_78 : Cond.code yX7_ask cX7_ask 6 (some .int) ∈ wsL_law := zr_35 _ (by decide +kernel)
theorem hkL_53 : ∀ w ∈ ([Cond.methodLink RL 53 yX7_ask, Cond.instanceMethod yX7_ask, Cond.selects RX7 yX7_ask yX7_ask, Cond.initialized RX7, Cond.code yX7_ask cX7_ask 6 (some .int)] : List Cond), w ∈ wsL_law := List.forall_mem_cons.mpr ⟨zlw_75, List.forall_mem_cons.mpr ⟨zlw_76, List.forall_mem_cons.mpr ⟨zlw_77, List.forall_mem_cons.mpr ⟨zlw_4, List.forall_mem_cons.mpr ⟨zlw_78, fun _ h => absurd h List.not_mem_nil⟩⟩⟩⟩⟩
theorem hdL_X7_ask : yX7_ask.cls = RX7 ∧ yX7_ask.cls ≠ "java/lang/invoke/MethodHandle" ∧ yX7_ask.cls ≠ "java/lang/invoke/VarHandle" ∧ (parseMethodDescriptor yX7_ask.desc).map (fun d => d.parameters.length) = some 2 := by decide +kernel
theorem zlw_79 : Cond.methodLink RL 56 yX8_ask ∈ wsL_law := zr_35 _ (by decide +kernel)
theorem zlw_80 : Cond.instanceMethod yX8_ask ∈ wsL_law := zr_35 _ (by decide +kernel)
theorem zlw_81 : Cond.selects RX8 yX8_ask yX8_ask ∈ wsL_law := zr_35 _ (by decide +kernel)
theorem zlw_82 : Cond.code yX8_ask cX8_ask 3 (some .int) ∈ wsL_law := zr_35 _ (by decide +kernel)
theorem hkL_56 : ∀ w ∈ ([Cond.methodLink RL 56 yX8_ask, Cond.instanceMethod yX8_ask, Cond.selects RX8 yX8_ask yX8_ask, Cond.initialized RX8, Cond.code yX8_ask cX8_ask 3 (some .int)] : List Cond), w ∈ wsL_law := List.forall_mem_cons.mpr ⟨zlw_79, List.forall_mem_cons.mpr ⟨zlw_80, List.forall_mem_cons.mpr ⟨zlw_81, List.forall_mem_cons.mpr ⟨zlw_9, List.forall_mem_cons.mpr ⟨zlw_82, fun _ h => absurd h List.not_mem_nil⟩⟩⟩⟩⟩
theorem hdL_X8_ask : yX8_ask.cls = RX8 ∧ yX8_ask.cls ≠ "java/lang/invoke/MethodHandle" ∧ yX8_ask.cls ≠ "java/lang/invoke/VarHandle" ∧ (parseMethodDescriptor yX8_ask.desc).map (fun d => d.parameters.length) = some 2 := by decide +kernel
theorem zlw_83 : Cond.methodLink RL 57 yX7_day ∈ wsL_law := zr_36 _ (by decide +kernel)
theorem zlw_84 : Cond.instanceMethod yX7_day ∈ wsL_law := zr_36 _ (by decide +kernel)
theorem zlw_85 : Cond.selects RX7 yX7_day yX7_day ∈ wsL_law := zr_36 _ (by decide +kernel)
theorem zlw_86 : Cond.code yX7_day cX7_day 1 (some .int) ∈ wsL_law := zr_36 _ (by decide +kernel)
theorem hkL_57 : ∀ w ∈ ([Cond.methodLink RL 57 yX7_day, Cond.instanceMethod yX7_day, Cond.selects RX7 yX7_day yX7_day, Cond.initialized RX7, Cond.code yX7_day cX7_day 1 (some .int)] : List Cond), w ∈ wsL_law := List.forall_mem_cons.mpr ⟨zlw_83, List.forall_mem_cons.mpr ⟨zlw_84, List.forall_mem_cons.mpr ⟨zlw_85, List.forall_mem_cons.mpr ⟨zlw_4, List.forall_mem_cons.mpr ⟨zlw_86, fun _ h => absurd h List.not_mem_nil⟩⟩⟩⟩⟩
theorem hdL_X7_day : yX7_day.cls = RX7 ∧ yX7_day.cls ≠ "java/lang/invoke/MethodHandle" ∧ yX7_day.cls ≠ "java/lang/invoke/VarHandle" ∧ (parseMethodDescriptor yX7_day.desc).map (fun d => d.parameters.length) = some 0 := by decide +kernel
theorem zlw_87 : Cond.methodLink RL 60 yX8_day ∈ wsL_law := zr_36 _ (by decide +kernel)
theorem zlw_88 : Cond.instanceMethod yX8_day ∈ wsL_law := zr_36 _ (by decide +kernel)
theorem zlw_89 : Cond.selects RX8 yX8_day yX8_day ∈ wsL_law := zr_36 _ (by decide +kernel)
theorem zlw_90 : Cond.code yX8_day cX8_day 1 (some .int) ∈ wsL_law := zr_36 _ (by decide +kernel)
theorem hkL_60 : ∀ w ∈ ([Cond.methodLink RL 60 yX8_day, Cond.instanceMethod yX8_day, Cond.selects RX8 yX8_day yX8_day, Cond.initialized RX8, Cond.code yX8_day cX8_day 1 (some .int)] : List Cond), w ∈ wsL_law := List.forall_mem_cons.mpr ⟨zlw_87, List.forall_mem_cons.mpr ⟨zlw_88, List.forall_mem_cons.mpr ⟨zlw_89, List.forall_mem_cons.mpr ⟨zlw_9, List.forall_mem_cons.mpr ⟨zlw_90, fun _ h => absurd h List.not_mem_nil⟩⟩⟩⟩⟩
theorem hdL_X8_day : yX8_day.cls = RX8 ∧ yX8_day.cls ≠ "java/lang/invoke/MethodHandle" ∧ yX8_day.cls ≠ "java/lang/invoke/VarHandle" ∧ (parseMethodDescriptor yX8_day.desc).map (fun d => d.parameters.length) = some 0 := by decide +kernel
theorem zlw_91 : Cond.methodLink RL 61 yX7_row ∈ wsL_law := zr_36 _ (by decide +kernel)
theorem zlw_92 : Cond.instanceMethod yX7_row ∈ wsL_law := zr_36 _ (by decide +kernel)
theorem zlw_93 : Cond.selects RX7 yX7_row yX7_row ∈ wsL_law := zr_36 _ (by decide +kernel)
theorem zlw_94 : Cond.code yX7_row cX7_row 7 (some .int) ∈ wsL_law := zr_36 _ (by decide +kernel)
theorem hkL_61 : ∀ w ∈ ([Cond.methodLink RL 61 yX7_row, Cond.instanceMethod yX7_row, Cond.selects RX7 yX7_row yX7_row, Cond.initialized RX7, Cond.code yX7_row cX7_row 7 (some .int)] : List Cond), w ∈ wsL_law := List.forall_mem_cons.mpr ⟨zlw_91, List.forall_mem_cons.mpr ⟨zlw_92, List.forall_mem_cons.mpr ⟨zlw_93, List.forall_mem_cons.mpr ⟨zlw_4, List.forall_mem_cons.mpr ⟨zlw_94, fun _ h => absurd h List.not_mem_nil⟩⟩⟩⟩⟩
theorem hdL_X7_row : yX7_row.cls = RX7 ∧ yX7_row.cls ≠ "java/lang/invoke/MethodHandle" ∧ yX7_row.cls ≠ "java/lang/invoke/VarHandle" ∧ (parseMethodDescriptor yX7_row.desc).map (fun d => d.parameters.length) = some 3 := by decide +kernel
theorem zlw_95 : Cond.methodLink RL 64 yX8_row ∈ wsL_law := zr_37 _ (by decide +kernel)
theorem zlw_96 : Cond.instanceMethod yX8_row ∈ wsL_law := zr_37 _ (by decide +kernel)
theorem zlw_97 : Cond.selects RX8 yX8_row yX8_row ∈ wsL_law := zr_37 _ (by decide +kernel)
theorem zlw_98 : Cond.code yX8_row cX8_row 6 (some .int) ∈ wsL_law := zr_37 _ (by decide +kernel)
theorem hkL_64 : ∀ w ∈ ([Cond.methodLink RL 64 yX8_row, Cond.instanceMethod yX8_row, Cond.selects RX8 yX8_row yX8_row, Cond.initialized RX8, Cond.code yX8_row cX8_row 6 (some .int)] : List Cond), w ∈ wsL_law := List.forall_mem_cons.mpr ⟨zlw_95, List.forall_mem_cons.mpr ⟨zlw_96, List.forall_mem_cons.mpr ⟨zlw_97, List.forall_mem_cons.mpr ⟨zlw_9, List.forall_mem_cons.mpr ⟨zlw_98, fun _ h => absurd h List.not_mem_nil⟩⟩⟩⟩⟩
theorem hdL_X8_row : yX8_row.cls = RX8 ∧ yX8_row.cls ≠ "java/lang/invoke/MethodHandle" ∧ yX8_row.cls ≠ "java/lang/invoke/VarHandle" ∧ (parseMethodDescriptor yX8_row.desc).map (fun d => d.parameters.length) = some 3 := by decide +kernel
theorem zlw_99 : Cond.methodLink RL 65 yX7_rows ∈ wsL_law := zr_38 _ (by decide +kernel)
theorem zlw_100 : Cond.instanceMethod yX7_rows ∈ wsL_law := zr_38 _ (by decide +kernel)
theorem zlw_101 : Cond.selects RX7 yX7_rows yX7_rows ∈ wsL_law := zr_38 _ (by decide +kernel)
theorem zlw_102 : Cond.code yX7_rows cX7_rows 7 (some .int) ∈ wsL_law := zr_39 _ (by decide +kernel)
theorem hkL_65 : ∀ w ∈ ([Cond.methodLink RL 65 yX7_rows, Cond.instanceMethod yX7_rows, Cond.selects RX7 yX7_rows yX7_rows, Cond.initialized RX7, Cond.code yX7_rows cX7_rows 7 (some .int)] : List Cond), w ∈ wsL_law := List.forall_mem_cons.mpr ⟨zlw_99, List.forall_mem_cons.mpr ⟨zlw_100, List.forall_mem_cons.mpr ⟨zlw_101, List.forall_mem_cons.mpr ⟨zlw_4, List.forall_mem_cons.mpr ⟨zlw_102, fun _ h => absurd h List.not_mem_nil⟩⟩⟩⟩⟩
theorem hdL_X7_rows : yX7_rows.cls = RX7 ∧ yX7_rows.cls ≠ "java/lang/invoke/MethodHandle" ∧ yX7_rows.cls ≠ "java/lang/invoke/VarHandle" ∧ (parseMethodDescriptor yX7_rows.desc).map (fun d => d.parameters.length) = some 2 := by decide +kernel
theorem zlw_103 : Cond.methodLink RL 68 yX8_rows ∈ wsL_law := zr_39 _ (by decide +kernel)
theorem zlw_104 : Cond.instanceMethod yX8_rows ∈ wsL_law := zr_39 _ (by decide +kernel)
theorem zlw_105 : Cond.selects RX8 yX8_rows yX8_rows ∈ wsL_law := zr_39 _ (by decide +kernel)
theorem zlw_106 : Cond.code yX8_rows cX8_rows 4 (some .int) ∈ wsL_law := zr_39 _ (by decide +kernel)
theorem hkL_68 : ∀ w ∈ ([Cond.methodLink RL 68 yX8_rows, Cond.instanceMethod yX8_rows, Cond.selects RX8 yX8_rows yX8_rows, Cond.initialized RX8, Cond.code yX8_rows cX8_rows 4 (some .int)] : List Cond), w ∈ wsL_law := List.forall_mem_cons.mpr ⟨zlw_103, List.forall_mem_cons.mpr ⟨zlw_104, List.forall_mem_cons.mpr ⟨zlw_105, List.forall_mem_cons.mpr ⟨zlw_9, List.forall_mem_cons.mpr ⟨zlw_106, fun _ h => absurd h List.not_mem_nil⟩⟩⟩⟩⟩
theorem hdL_X8_rows : yX8_rows.cls = RX8 ∧ yX8_rows.cls ≠ "java/lang/invoke/MethodHandle" ∧ yX8_rows.cls ≠ "java/lang/invoke/VarHandle" ∧ (parseMethodDescriptor yX8_rows.desc).map (fun d => d.parameters.length) = some 2 := by decide +kernel
theorem zlw_107 : Cond.methodLink RL 69 yX7_leave ∈ wsL_law := zr_39 _ (by decide +kernel)
theorem zlw_108 : Cond.instanceMethod yX7_leave ∈ wsL_law := zr_39 _ (by decide +kernel)
theorem zlw_109 : Cond.selects RX7 yX7_leave yX7_leave ∈ wsL_law := zr_39 _ (by decide +kernel)
theorem zlw_110 : Cond.code yX7_leave cX7_leave 6 (some .int) ∈ wsL_law := zr_39 _ (by decide +kernel)
theorem hkL_69 : ∀ w ∈ ([Cond.methodLink RL 69 yX7_leave, Cond.instanceMethod yX7_leave, Cond.selects RX7 yX7_leave yX7_leave, Cond.initialized RX7, Cond.code yX7_leave cX7_leave 6 (some .int)] : List Cond), w ∈ wsL_law := List.forall_mem_cons.mpr ⟨zlw_107, List.forall_mem_cons.mpr ⟨zlw_108, List.forall_mem_cons.mpr ⟨zlw_109, List.forall_mem_cons.mpr ⟨zlw_4, List.forall_mem_cons.mpr ⟨zlw_110, fun _ h => absurd h List.not_mem_nil⟩⟩⟩⟩⟩
theorem hdL_X7_leave : yX7_leave.cls = RX7 ∧ yX7_leave.cls ≠ "java/lang/invoke/MethodHandle" ∧ yX7_leave.cls ≠ "java/lang/invoke/VarHandle" ∧ (parseMethodDescriptor yX7_leave.desc).map (fun d => d.parameters.length) = some 3 := by decide +kernel
theorem zlw_111 : Cond.methodLink RL 72 yX8_leave ∈ wsL_law := zr_39 _ (by decide +kernel)
theorem zlw_112 : Cond.instanceMethod yX8_leave ∈ wsL_law := zr_39 _ (by decide +kernel)
theorem zlw_113 : Cond.selects RX8 yX8_leave yX8_leave ∈ wsL_law := zr_39 _ (by decide +kernel)
theorem zlw_114 : Cond.code yX8_leave cX8_leave 7 (some .int) ∈ wsL_law := zr_39 _ (by decide +kernel)
theorem hkL_72 : ∀ w ∈ ([Cond.methodLink RL 72 yX8_leave, Cond.instanceMethod yX8_leave, Cond.selects RX8 yX8_leave yX8_leave, Cond.initialized RX8, Cond.code yX8_leave cX8_leave 7 (some .int)] : List Cond), w ∈ wsL_law := List.forall_mem_cons.mpr ⟨zlw_111, List.forall_mem_cons.mpr ⟨zlw_112, List.forall_mem_cons.mpr ⟨zlw_113, List.forall_mem_cons.mpr ⟨zlw_9, List.forall_mem_cons.mpr ⟨zlw_114, fun _ h => absurd h List.not_mem_nil⟩⟩⟩⟩⟩
theorem hdL_X8_leave : yX8_leave.cls = RX8 ∧ yX8_leave.cls ≠ "java/lang/invoke/MethodHandle" ∧ yX8_leave.cls ≠ "java/lang/invoke/VarHandle" ∧ (parseMethodDescriptor yX8_leave.desc).map (fun d => d.parameters.length) = some 3 := by decide +kernel
theorem zlw_115 : Cond.methodLink RL 73 yX7_gladdest ∈ wsL_law := zr_39 _ (by decide +kernel)
theorem zlw_116 : Cond.instanceMethod yX7_gladdest ∈ wsL_law := zr_39 _ (by decide +kernel)
theorem zlw_117 : Cond.selects RX7 yX7_gladdest yX7_gladdest ∈ wsL_law := zr_39 _ (by decide +kernel)
theorem zlw_118 : Cond.code yX7_gladdest cX7_gladdest 5 (some .int) ∈ wsL_law := zr_39 _ (by decide +kernel)
theorem hkL_73 : ∀ w ∈ ([Cond.methodLink RL 73 yX7_gladdest, Cond.instanceMethod yX7_gladdest, Cond.selects RX7 yX7_gladdest yX7_gladdest, Cond.initialized RX7, Cond.code yX7_gladdest cX7_gladdest 5 (some .int)] : List Cond), w ∈ wsL_law := List.forall_mem_cons.mpr ⟨zlw_115, List.forall_mem_cons.mpr ⟨zlw_116, List.forall_mem_cons.mpr ⟨zlw_117, List.forall_mem_cons.mpr ⟨zlw_4, List.forall_mem_cons.mpr ⟨zlw_118, fun _ h => absurd h List.not_mem_nil⟩⟩⟩⟩⟩
theorem hdL_X7_gladdest : yX7_gladdest.cls = RX7 ∧ yX7_gladdest.cls ≠ "java/lang/invoke/MethodHandle" ∧ yX7_gladdest.cls ≠ "java/lang/invoke/VarHandle" ∧ (parseMethodDescriptor yX7_gladdest.desc).map (fun d => d.parameters.length) = some 2 := by decide +kernel
theorem zlw_119 : Cond.methodLink RL 76 yX8_gladdest ∈ wsL_law := zr_40 _ (by decide +kernel)
theorem zlw_120 : Cond.instanceMethod yX8_gladdest ∈ wsL_law := zr_40 _ (by decide +kernel)
theorem zlw_121 : Cond.selects RX8 yX8_gladdest yX8_gladdest ∈ wsL_law := zr_40 _ (by decide +kernel)
theorem zlw_122 : Cond.code yX8_gladdest cX8_gladdest 8 (some .int) ∈ wsL_law := zr_40 _ (by decide +kernel)
theorem hkL_76 : ∀ w ∈ ([Cond.methodLink RL 76 yX8_gladdest, Cond.instanceMethod yX8_gladdest, Cond.selects RX8 yX8_gladdest yX8_gladdest, Cond.initialized RX8, Cond.code yX8_gladdest cX8_gladdest 8 (some .int)] : List Cond), w ∈ wsL_law := List.forall_mem_cons.mpr ⟨zlw_119, List.forall_mem_cons.mpr ⟨zlw_120, List.forall_mem_cons.mpr ⟨zlw_121, List.forall_mem_cons.mpr ⟨zlw_9, List.forall_mem_cons.mpr ⟨zlw_122, fun _ h => absurd h List.not_mem_nil⟩⟩⟩⟩⟩
theorem hdL_X8_gladdest : yX8_gladdest.cls = RX8 ∧ yX8_gladdest.cls ≠ "java/lang/invoke/MethodHandle" ∧ yX8_gladdest.cls ≠ "java/lang/invoke/VarHandle" ∧ (parseMethodDescriptor yX8_gladdest.desc).map (fun d => d.parameters.length) = some 2 := by decide +kernel
theorem zlw_123 : Cond.methodLink RL 77 yX7_get ∈ wsL_law := zr_40 _ (by decide +kernel)
theorem zlw_124 : Cond.instanceMethod yX7_get ∈ wsL_law := zr_40 _ (by decide +kernel)
theorem zlw_125 : Cond.selects RX7 yX7_get yX7_get ∈ wsL_law := zr_40 _ (by decide +kernel)
theorem zlw_126 : Cond.code yX7_get cX7_get 6 (some .int) ∈ wsL_law := zr_40 _ (by decide +kernel)
theorem hkL_77 : ∀ w ∈ ([Cond.methodLink RL 77 yX7_get, Cond.instanceMethod yX7_get, Cond.selects RX7 yX7_get yX7_get, Cond.initialized RX7, Cond.code yX7_get cX7_get 6 (some .int)] : List Cond), w ∈ wsL_law := List.forall_mem_cons.mpr ⟨zlw_123, List.forall_mem_cons.mpr ⟨zlw_124, List.forall_mem_cons.mpr ⟨zlw_125, List.forall_mem_cons.mpr ⟨zlw_4, List.forall_mem_cons.mpr ⟨zlw_126, fun _ h => absurd h List.not_mem_nil⟩⟩⟩⟩⟩
theorem hdL_X7_get : yX7_get.cls = RX7 ∧ yX7_get.cls ≠ "java/lang/invoke/MethodHandle" ∧ yX7_get.cls ≠ "java/lang/invoke/VarHandle" ∧ (parseMethodDescriptor yX7_get.desc).map (fun d => d.parameters.length) = some 3 := by decide +kernel
theorem zlw_127 : Cond.methodLink RL 80 yX8_get ∈ wsL_law := zr_40 _ (by decide +kernel)
theorem zlw_128 : Cond.instanceMethod yX8_get ∈ wsL_law := zr_40 _ (by decide +kernel)
theorem zlw_129 : Cond.selects RX8 yX8_get yX8_get ∈ wsL_law := zr_40 _ (by decide +kernel)
theorem zlw_130 : Cond.code yX8_get cX8_get 7 (some .int) ∈ wsL_law := zr_40 _ (by decide +kernel)
theorem hkL_80 : ∀ w ∈ ([Cond.methodLink RL 80 yX8_get, Cond.instanceMethod yX8_get, Cond.selects RX8 yX8_get yX8_get, Cond.initialized RX8, Cond.code yX8_get cX8_get 7 (some .int)] : List Cond), w ∈ wsL_law := List.forall_mem_cons.mpr ⟨zlw_127, List.forall_mem_cons.mpr ⟨zlw_128, List.forall_mem_cons.mpr ⟨zlw_129, List.forall_mem_cons.mpr ⟨zlw_9, List.forall_mem_cons.mpr ⟨zlw_130, fun _ h => absurd h List.not_mem_nil⟩⟩⟩⟩⟩
theorem hdL_X8_get : yX8_get.cls = RX8 ∧ yX8_get.cls ≠ "java/lang/invoke/MethodHandle" ∧ yX8_get.cls ≠ "java/lang/invoke/VarHandle" ∧ (parseMethodDescriptor yX8_get.desc).map (fun d => d.parameters.length) = some 3 := by decide +kernel
theorem zlw_131 : Cond.methodLink RL 81 yX7_map ∈ wsL_law := zr_40 _ (by decide +kernel)
theorem zlw_132 : Cond.instanceMethod yX7_map ∈ wsL_law := zr_40 _ (by decide +kernel)
theorem zlw_133 : Cond.selects RX7 yX7_map yX7_map ∈ wsL_law := zr_40 _ (by decide +kernel)
theorem zlw_134 : Cond.code yX7_map cX7_map 6 (some .int) ∈ wsL_law := zr_40 _ (by decide +kernel)
theorem hkL_81 : ∀ w ∈ ([Cond.methodLink RL 81 yX7_map, Cond.instanceMethod yX7_map, Cond.selects RX7 yX7_map yX7_map, Cond.initialized RX7, Cond.code yX7_map cX7_map 6 (some .int)] : List Cond), w ∈ wsL_law := List.forall_mem_cons.mpr ⟨zlw_131, List.forall_mem_cons.mpr ⟨zlw_132, List.forall_mem_cons.mpr ⟨zlw_133, List.forall_mem_cons.mpr ⟨zlw_4, List.forall_mem_cons.mpr ⟨zlw_134, fun _ h => absurd h List.not_mem_nil⟩⟩⟩⟩⟩
theorem hdL_X7_map : yX7_map.cls = RX7 ∧ yX7_map.cls ≠ "java/lang/invoke/MethodHandle" ∧ yX7_map.cls ≠ "java/lang/invoke/VarHandle" ∧ (parseMethodDescriptor yX7_map.desc).map (fun d => d.parameters.length) = some 1 := by decide +kernel
theorem zlw_135 : Cond.methodLink RL 84 yX8_map ∈ wsL_law := zr_41 _ (by decide +kernel)
theorem zlw_136 : Cond.instanceMethod yX8_map ∈ wsL_law := zr_41 _ (by decide +kernel)
theorem zlw_137 : Cond.selects RX8 yX8_map yX8_map ∈ wsL_law := zr_41 _ (by decide +kernel)
theorem zlw_138 : Cond.code yX8_map cX8_map 6 (some .int) ∈ wsL_law := zr_41 _ (by decide +kernel)
theorem hkL_84 : ∀ w ∈ ([Cond.methodLink RL 84 yX8_map, Cond.instanceMethod yX8_map, Cond.selects RX8 yX8_map yX8_map, Cond.initialized RX8, Cond.code yX8_map cX8_map 6 (some .int)] : List Cond), w ∈ wsL_law := List.forall_mem_cons.mpr ⟨zlw_135, List.forall_mem_cons.mpr ⟨zlw_136, List.forall_mem_cons.mpr ⟨zlw_137, List.forall_mem_cons.mpr ⟨zlw_9, List.forall_mem_cons.mpr ⟨zlw_138, fun _ h => absurd h List.not_mem_nil⟩⟩⟩⟩⟩
theorem hdL_X8_map : yX8_map.cls = RX8 ∧ yX8_map.cls ≠ "java/lang/invoke/MethodHandle" ∧ yX8_map.cls ≠ "java/lang/invoke/VarHandle" ∧ (parseMethodDescriptor yX8_map.desc).map (fun d => d.parameters.length) = some 1 := by decide +kernel
theorem zlw_139 : Cond.methodLink RL 85 yX7_net ∈ wsL_law := zr_41 _ (by decide +kernel)
theorem zlw_140 : Cond.instanceMethod yX7_net ∈ wsL_law := zr_41 _ (by decide +kernel)
theorem zlw_141 : Cond.selects RX7 yX7_net yX7_net ∈ wsL_law := zr_41 _ (by decide +kernel)
theorem zlw_142 : Cond.code yX7_net cX7_net 2 (some .int) ∈ wsL_law := zr_41 _ (by decide +kernel)
theorem hkL_85 : ∀ w ∈ ([Cond.methodLink RL 85 yX7_net, Cond.instanceMethod yX7_net, Cond.selects RX7 yX7_net yX7_net, Cond.initialized RX7, Cond.code yX7_net cX7_net 2 (some .int)] : List Cond), w ∈ wsL_law := List.forall_mem_cons.mpr ⟨zlw_139, List.forall_mem_cons.mpr ⟨zlw_140, List.forall_mem_cons.mpr ⟨zlw_141, List.forall_mem_cons.mpr ⟨zlw_4, List.forall_mem_cons.mpr ⟨zlw_142, fun _ h => absurd h List.not_mem_nil⟩⟩⟩⟩⟩
theorem hdL_X7_net : yX7_net.cls = RX7 ∧ yX7_net.cls ≠ "java/lang/invoke/MethodHandle" ∧ yX7_net.cls ≠ "java/lang/invoke/VarHandle" ∧ (parseMethodDescriptor yX7_net.desc).map (fun d => d.parameters.length) = some 1 := by decide +kernel
theorem zlw_143 : Cond.methodLink RL 88 yX8_net ∈ wsL_law := zr_42 _ (by decide +kernel)
theorem zlw_144 : Cond.instanceMethod yX8_net ∈ wsL_law := zr_42 _ (by decide +kernel)
theorem zlw_145 : Cond.selects RX8 yX8_net yX8_net ∈ wsL_law := zr_42 _ (by decide +kernel)
theorem zlw_146 : Cond.code yX8_net cX8_net 4 (some .int) ∈ wsL_law := zr_42 _ (by decide +kernel)
theorem hkL_88 : ∀ w ∈ ([Cond.methodLink RL 88 yX8_net, Cond.instanceMethod yX8_net, Cond.selects RX8 yX8_net yX8_net, Cond.initialized RX8, Cond.code yX8_net cX8_net 4 (some .int)] : List Cond), w ∈ wsL_law := List.forall_mem_cons.mpr ⟨zlw_143, List.forall_mem_cons.mpr ⟨zlw_144, List.forall_mem_cons.mpr ⟨zlw_145, List.forall_mem_cons.mpr ⟨zlw_9, List.forall_mem_cons.mpr ⟨zlw_146, fun _ h => absurd h List.not_mem_nil⟩⟩⟩⟩⟩
theorem hdL_X8_net : yX8_net.cls = RX8 ∧ yX8_net.cls ≠ "java/lang/invoke/MethodHandle" ∧ yX8_net.cls ≠ "java/lang/invoke/VarHandle" ∧ (parseMethodDescriptor yX8_net.desc).map (fun d => d.parameters.length) = some 1 := by decide +kernel
theorem zlw_147 : Cond.methodLink RL 89 yX7_share ∈ wsL_law := zr_42 _ (by decide +kernel)
theorem zlw_148 : Cond.instanceMethod yX7_share ∈ wsL_law := zr_42 _ (by decide +kernel)
theorem zlw_149 : Cond.selects RX7 yX7_share yX7_share ∈ wsL_law := zr_42 _ (by decide +kernel)
theorem zlw_150 : Cond.code yX7_share cX7_share 4 (some .long) ∈ wsL_law := zr_42 _ (by decide +kernel)
theorem hkL_89 : ∀ w ∈ ([Cond.methodLink RL 89 yX7_share, Cond.instanceMethod yX7_share, Cond.selects RX7 yX7_share yX7_share, Cond.initialized RX7, Cond.code yX7_share cX7_share 4 (some .long)] : List Cond), w ∈ wsL_law := List.forall_mem_cons.mpr ⟨zlw_147, List.forall_mem_cons.mpr ⟨zlw_148, List.forall_mem_cons.mpr ⟨zlw_149, List.forall_mem_cons.mpr ⟨zlw_4, List.forall_mem_cons.mpr ⟨zlw_150, fun _ h => absurd h List.not_mem_nil⟩⟩⟩⟩⟩
theorem hdL_X7_share : yX7_share.cls = RX7 ∧ yX7_share.cls ≠ "java/lang/invoke/MethodHandle" ∧ yX7_share.cls ≠ "java/lang/invoke/VarHandle" ∧ (parseMethodDescriptor yX7_share.desc).map (fun d => d.parameters.length) = some 2 := by decide +kernel
theorem zlw_151 : Cond.methodLink RL 93 yX8_share ∈ wsL_law := zr_42 _ (by decide +kernel)
theorem zlw_152 : Cond.instanceMethod yX8_share ∈ wsL_law := zr_43 _ (by decide +kernel)
theorem zlw_153 : Cond.selects RX8 yX8_share yX8_share ∈ wsL_law := zr_43 _ (by decide +kernel)
theorem zlw_154 : Cond.code yX8_share cX8_share 3 (some .long) ∈ wsL_law := zr_43 _ (by decide +kernel)
theorem hkL_93 : ∀ w ∈ ([Cond.methodLink RL 93 yX8_share, Cond.instanceMethod yX8_share, Cond.selects RX8 yX8_share yX8_share, Cond.initialized RX8, Cond.code yX8_share cX8_share 3 (some .long)] : List Cond), w ∈ wsL_law := List.forall_mem_cons.mpr ⟨zlw_151, List.forall_mem_cons.mpr ⟨zlw_152, List.forall_mem_cons.mpr ⟨zlw_153, List.forall_mem_cons.mpr ⟨zlw_9, List.forall_mem_cons.mpr ⟨zlw_154, fun _ h => absurd h List.not_mem_nil⟩⟩⟩⟩⟩
theorem hdL_X8_share : yX8_share.cls = RX8 ∧ yX8_share.cls ≠ "java/lang/invoke/MethodHandle" ∧ yX8_share.cls ≠ "java/lang/invoke/VarHandle" ∧ (parseMethodDescriptor yX8_share.desc).map (fun d => d.parameters.length) = some 2 := by decide +kernel
theorem zlw_155 : Cond.methodLink RL 94 yX7_tells ∈ wsL_law := zr_43 _ (by decide +kernel)
theorem zlw_156 : Cond.instanceMethod yX7_tells ∈ wsL_law := zr_43 _ (by decide +kernel)
theorem zlw_157 : Cond.selects RX7 yX7_tells yX7_tells ∈ wsL_law := zr_43 _ (by decide +kernel)
theorem zlw_158 : Cond.code yX7_tells cX7_tells 6 (some .int) ∈ wsL_law := zr_43 _ (by decide +kernel)
theorem hkL_94 : ∀ w ∈ ([Cond.methodLink RL 94 yX7_tells, Cond.instanceMethod yX7_tells, Cond.selects RX7 yX7_tells yX7_tells, Cond.initialized RX7, Cond.code yX7_tells cX7_tells 6 (some .int)] : List Cond), w ∈ wsL_law := List.forall_mem_cons.mpr ⟨zlw_155, List.forall_mem_cons.mpr ⟨zlw_156, List.forall_mem_cons.mpr ⟨zlw_157, List.forall_mem_cons.mpr ⟨zlw_4, List.forall_mem_cons.mpr ⟨zlw_158, fun _ h => absurd h List.not_mem_nil⟩⟩⟩⟩⟩
theorem hdL_X7_tells : yX7_tells.cls = RX7 ∧ yX7_tells.cls ≠ "java/lang/invoke/MethodHandle" ∧ yX7_tells.cls ≠ "java/lang/invoke/VarHandle" ∧ (parseMethodDescriptor yX7_tells.desc).map (fun d => d.parameters.length) = some 3 := by decide +kernel
theorem zlw_159 : Cond.methodLink RL 97 yX8_tells ∈ wsL_law := zr_44 _ (by decide +kernel)
theorem zlw_160 : Cond.instanceMethod yX8_tells ∈ wsL_law := zr_44 _ (by decide +kernel)
theorem zlw_161 : Cond.selects RX8 yX8_tells yX8_tells ∈ wsL_law := zr_44 _ (by decide +kernel)
theorem zlw_162 : Cond.code yX8_tells cX8_tells 11 (some .int) ∈ wsL_law := zr_44 _ (by decide +kernel)
theorem hkL_97 : ∀ w ∈ ([Cond.methodLink RL 97 yX8_tells, Cond.instanceMethod yX8_tells, Cond.selects RX8 yX8_tells yX8_tells, Cond.initialized RX8, Cond.code yX8_tells cX8_tells 11 (some .int)] : List Cond), w ∈ wsL_law := List.forall_mem_cons.mpr ⟨zlw_159, List.forall_mem_cons.mpr ⟨zlw_160, List.forall_mem_cons.mpr ⟨zlw_161, List.forall_mem_cons.mpr ⟨zlw_9, List.forall_mem_cons.mpr ⟨zlw_162, fun _ h => absurd h List.not_mem_nil⟩⟩⟩⟩⟩
theorem hdL_X8_tells : yX8_tells.cls = RX8 ∧ yX8_tells.cls ≠ "java/lang/invoke/MethodHandle" ∧ yX8_tells.cls ≠ "java/lang/invoke/VarHandle" ∧ (parseMethodDescriptor yX8_tells.desc).map (fun d => d.parameters.length) = some 3 := by decide +kernel
theorem zlw_163 : Cond.methodLink RL 98 yX7_film ∈ wsL_law := zr_45 _ (by decide +kernel)
theorem zlw_164 : Cond.instanceMethod yX7_film ∈ wsL_law := zr_45 _ (by decide +kernel)
theorem zlw_165 : Cond.selects RX7 yX7_film yX7_film ∈ wsL_law := zr_45 _ (by decide +kernel)
theorem zlw_166 : Cond.code yX7_film cX7_film 8 (some .int) ∈ wsL_law := zr_45 _ (by decide +kernel)
theorem hkL_98 : ∀ w ∈ ([Cond.methodLink RL 98 yX7_film, Cond.instanceMethod yX7_film, Cond.selects RX7 yX7_film yX7_film, Cond.initialized RX7, Cond.code yX7_film cX7_film 8 (some .int)] : List Cond), w ∈ wsL_law := List.forall_mem_cons.mpr ⟨zlw_163, List.forall_mem_cons.mpr ⟨zlw_164, List.forall_mem_cons.mpr ⟨zlw_165, List.forall_mem_cons.mpr ⟨zlw_4, List.forall_mem_cons.mpr ⟨zlw_166, fun _ h => absurd h List.not_mem_nil⟩⟩⟩⟩⟩
theorem hdL_X7_film : yX7_film.cls = RX7 ∧ yX7_film.cls ≠ "java/lang/invoke/MethodHandle" ∧ yX7_film.cls ≠ "java/lang/invoke/VarHandle" ∧ (parseMethodDescriptor yX7_film.desc).map (fun d => d.parameters.length) = some 2 := by decide +kernel
theorem zlw_167 : Cond.methodLink RL 101 yX8_film ∈ wsL_law := zr_46 _ (by decide +kernel)
theorem zlw_168 : Cond.instanceMethod yX8_film ∈ wsL_law := zr_46 _ (by decide +kernel)
theorem zlw_169 : Cond.selects RX8 yX8_film yX8_film ∈ wsL_law := zr_46 _ (by decide +kernel)
theorem zlw_170 : Cond.code yX8_film cX8_film 6 (some .int) ∈ wsL_law := zr_46 _ (by decide +kernel)
theorem hkL_101 : ∀ w ∈ ([Cond.methodLink RL 101 yX8_film, Cond.instanceMethod yX8_film, Cond.selects RX8 yX8_film yX8_film, Cond.initialized RX8, Cond.code yX8_film cX8_film 6 (some .int)] : List Cond), w ∈ wsL_law := List.forall_mem_cons.mpr ⟨zlw_167, List.forall_mem_cons.mpr ⟨zlw_168, List.forall_mem_cons.mpr ⟨zlw_169, List.forall_mem_cons.mpr ⟨zlw_9, List.forall_mem_cons.mpr ⟨zlw_170, fun _ h => absurd h List.not_mem_nil⟩⟩⟩⟩⟩
theorem hdL_X8_film : yX8_film.cls = RX8 ∧ yX8_film.cls ≠ "java/lang/invoke/MethodHandle" ∧ yX8_film.cls ≠ "java/lang/invoke/VarHandle" ∧ (parseMethodDescriptor yX8_film.desc).map (fun d => d.parameters.length) = some 2 := by decide +kernel
theorem zlw_171 : Cond.methodLink RL 102 yX7_drawn ∈ wsL_law := zr_46 _ (by decide +kernel)
theorem zlw_172 : Cond.instanceMethod yX7_drawn ∈ wsL_law := zr_46 _ (by decide +kernel)
theorem zlw_173 : Cond.selects RX7 yX7_drawn yX7_drawn ∈ wsL_law := zr_46 _ (by decide +kernel)
theorem zlw_174 : Cond.code yX7_drawn cX7_drawn 5 (some .int) ∈ wsL_law := zr_46 _ (by decide +kernel)
theorem hkL_102 : ∀ w ∈ ([Cond.methodLink RL 102 yX7_drawn, Cond.instanceMethod yX7_drawn, Cond.selects RX7 yX7_drawn yX7_drawn, Cond.initialized RX7, Cond.code yX7_drawn cX7_drawn 5 (some .int)] : List Cond), w ∈ wsL_law := List.forall_mem_cons.mpr ⟨zlw_171, List.forall_mem_cons.mpr ⟨zlw_172, List.forall_mem_cons.mpr ⟨zlw_173, List.forall_mem_cons.mpr ⟨zlw_4, List.forall_mem_cons.mpr ⟨zlw_174, fun _ h => absurd h List.not_mem_nil⟩⟩⟩⟩⟩
theorem hdL_X7_drawn : yX7_drawn.cls = RX7 ∧ yX7_drawn.cls ≠ "java/lang/invoke/MethodHandle" ∧ yX7_drawn.cls ≠ "java/lang/invoke/VarHandle" ∧ (parseMethodDescriptor yX7_drawn.desc).map (fun d => d.parameters.length) = some 3 := by decide +kernel
theorem zlw_175 : Cond.methodLink RL 105 yX8_drawn ∈ wsL_law := zr_46 _ (by decide +kernel)
theorem zlw_176 : Cond.instanceMethod yX8_drawn ∈ wsL_law := zr_46 _ (by decide +kernel)
theorem zlw_177 : Cond.selects RX8 yX8_drawn yX8_drawn ∈ wsL_law := zr_46 _ (by decide +kernel)
theorem zlw_178 : Cond.code yX8_drawn cX8_drawn 4 (some .int) ∈ wsL_law := zr_46 _ (by decide +kernel)
theorem hkL_105 : ∀ w ∈ ([Cond.methodLink RL 105 yX8_drawn, Cond.instanceMethod yX8_drawn, Cond.selects RX8 yX8_drawn yX8_drawn, Cond.initialized RX8, Cond.code yX8_drawn cX8_drawn 4 (some .int)] : List Cond), w ∈ wsL_law := List.forall_mem_cons.mpr ⟨zlw_175, List.forall_mem_cons.mpr ⟨zlw_176, List.forall_mem_cons.mpr ⟨zlw_177, List.forall_mem_cons.mpr ⟨zlw_9, List.forall_mem_cons.mpr ⟨zlw_178, fun _ h => absurd h List.not_mem_nil⟩⟩⟩⟩⟩
theorem hdL_X8_drawn : yX8_drawn.cls = RX8 ∧ yX8_drawn.cls ≠ "java/lang/invoke/MethodHandle" ∧ yX8_drawn.cls ≠ "java/lang/invoke/VarHandle" ∧ (parseMethodDescriptor yX8_drawn.desc).map (fun d => d.parameters.length) = some 3 := by decide +kernel
theorem zlw_179 : Cond.methodLink RL 106 yX7_chance ∈ wsL_law := zr_47 _ (by decide +kernel)
theorem zlw_180 : Cond.instanceMethod yX7_chance ∈ wsL_law := zr_47 _ (by decide +kernel)
theorem zlw_181 : Cond.selects RX7 yX7_chance yX7_chance ∈ wsL_law := zr_47 _ (by decide +kernel)
theorem zlw_182 : Cond.code yX7_chance cX7_chance 9 (some .long) ∈ wsL_law := zr_47 _ (by decide +kernel)
theorem hkL_106 : ∀ w ∈ ([Cond.methodLink RL 106 yX7_chance, Cond.instanceMethod yX7_chance, Cond.selects RX7 yX7_chance yX7_chance, Cond.initialized RX7, Cond.code yX7_chance cX7_chance 9 (some .long)] : List Cond), w ∈ wsL_law := List.forall_mem_cons.mpr ⟨zlw_179, List.forall_mem_cons.mpr ⟨zlw_180, List.forall_mem_cons.mpr ⟨zlw_181, List.forall_mem_cons.mpr ⟨zlw_4, List.forall_mem_cons.mpr ⟨zlw_182, fun _ h => absurd h List.not_mem_nil⟩⟩⟩⟩⟩
theorem hdL_X7_chance : yX7_chance.cls = RX7 ∧ yX7_chance.cls ≠ "java/lang/invoke/MethodHandle" ∧ yX7_chance.cls ≠ "java/lang/invoke/VarHandle" ∧ (parseMethodDescriptor yX7_chance.desc).map (fun d => d.parameters.length) = some 5 := by decide +kernel
theorem zlw_183 : Cond.methodLink RL 110 yX8_chance ∈ wsL_law := zr_47 _ (by decide +kernel)
theorem zlw_184 : Cond.instanceMethod yX8_chance ∈ wsL_law := zr_47 _ (by decide +kernel)
theorem zlw_185 : Cond.selects RX8 yX8_chance yX8_chance ∈ wsL_law := zr_47 _ (by decide +kernel)
theorem zlw_186 : Cond.code yX8_chance cX8_chance 9 (some .long) ∈ wsL_law := zr_47 _ (by decide +kernel)
theorem hkL_110 : ∀ w ∈ ([Cond.methodLink RL 110 yX8_chance, Cond.instanceMethod yX8_chance, Cond.selects RX8 yX8_chance yX8_chance, Cond.initialized RX8, Cond.code yX8_chance cX8_chance 9 (some .long)] : List Cond), w ∈ wsL_law := List.forall_mem_cons.mpr ⟨zlw_183, List.forall_mem_cons.mpr ⟨zlw_184, List.forall_mem_cons.mpr ⟨zlw_185, List.forall_mem_cons.mpr ⟨zlw_9, List.forall_mem_cons.mpr ⟨zlw_186, fun _ h => absurd h List.not_mem_nil⟩⟩⟩⟩⟩
theorem hdL_X8_chance : yX8_chance.cls = RX8 ∧ yX8_chance.cls ≠ "java/lang/invoke/MethodHandle" ∧ yX8_chance.cls ≠ "java/lang/invoke/VarHandle" ∧ (parseMethodDescriptor yX8_chance.desc).map (fun d => d.parameters.length) = some 5 := by decide +kernel
theorem zlw_187 : Cond.methodLink RL 111 yX7_image ∈ wsL_law := zr_47 _ (by decide +kernel)
theorem zlw_188 : Cond.instanceMethod yX7_image ∈ wsL_law := zr_47 _ (by decide +kernel)
theorem zlw_189 : Cond.selects RX7 yX7_image yX7_image ∈ wsL_law := zr_47 _ (by decide +kernel)
theorem zlw_190 : Cond.code yX7_image cX7_image 1 (some .int) ∈ wsL_law := zr_47 _ (by decide +kernel)
theorem hkL_111 : ∀ w ∈ ([Cond.methodLink RL 111 yX7_image, Cond.instanceMethod yX7_image, Cond.selects RX7 yX7_image yX7_image, Cond.initialized RX7, Cond.code yX7_image cX7_image 1 (some .int)] : List Cond), w ∈ wsL_law := List.forall_mem_cons.mpr ⟨zlw_187, List.forall_mem_cons.mpr ⟨zlw_188, List.forall_mem_cons.mpr ⟨zlw_189, List.forall_mem_cons.mpr ⟨zlw_4, List.forall_mem_cons.mpr ⟨zlw_190, fun _ h => absurd h List.not_mem_nil⟩⟩⟩⟩⟩
theorem hdL_X7_image : yX7_image.cls = RX7 ∧ yX7_image.cls ≠ "java/lang/invoke/MethodHandle" ∧ yX7_image.cls ≠ "java/lang/invoke/VarHandle" ∧ (parseMethodDescriptor yX7_image.desc).map (fun d => d.parameters.length) = some 0 := by decide +kernel
theorem zlw_191 : Cond.methodLink RL 114 yX8_image ∈ wsL_law := zr_48 _ (by decide +kernel)
theorem zlw_192 : Cond.instanceMethod yX8_image ∈ wsL_law := zr_48 _ (by decide +kernel)
theorem zlw_193 : Cond.selects RX8 yX8_image yX8_image ∈ wsL_law := zr_48 _ (by decide +kernel)
theorem zlw_194 : Cond.code yX8_image cX8_image 2 (some .int) ∈ wsL_law := zr_48 _ (by decide +kernel)
theorem hkL_114 : ∀ w ∈ ([Cond.methodLink RL 114 yX8_image, Cond.instanceMethod yX8_image, Cond.selects RX8 yX8_image yX8_image, Cond.initialized RX8, Cond.code yX8_image cX8_image 2 (some .int)] : List Cond), w ∈ wsL_law := List.forall_mem_cons.mpr ⟨zlw_191, List.forall_mem_cons.mpr ⟨zlw_192, List.forall_mem_cons.mpr ⟨zlw_193, List.forall_mem_cons.mpr ⟨zlw_9, List.forall_mem_cons.mpr ⟨zlw_194, fun _ h => absurd h List.not_mem_nil⟩⟩⟩⟩⟩
theorem hdL_X8_image : yX8_image.cls = RX8 ∧ yX8_image.cls ≠ "java/lang/invoke/MethodHandle" ∧ yX8_image.cls ≠ "java/lang/invoke/VarHandle" ∧ (parseMethodDescriptor yX8_image.desc).map (fun d => d.parameters.length) = some 0 := by decide +kernel
theorem zlw_195 : Cond.methodLink RL 115 yX7_back ∈ wsL_law := zr_48 _ (by decide +kernel)
theorem zlw_196 : Cond.instanceMethod yX7_back ∈ wsL_law := zr_48 _ (by decide +kernel)
theorem zlw_197 : Cond.selects RX7 yX7_back yX7_back ∈ wsL_law := zr_48 _ (by decide +kernel)
theorem zlw_198 : Cond.code yX7_back cX7_back 1 (some .int) ∈ wsL_law := zr_48 _ (by decide +kernel)
theorem hkL_115 : ∀ w ∈ ([Cond.methodLink RL 115 yX7_back, Cond.instanceMethod yX7_back, Cond.selects RX7 yX7_back yX7_back, Cond.initialized RX7, Cond.code yX7_back cX7_back 1 (some .int)] : List Cond), w ∈ wsL_law := List.forall_mem_cons.mpr ⟨zlw_195, List.forall_mem_cons.mpr ⟨zlw_196, List.forall_mem_cons.mpr ⟨zlw_197, List.forall_mem_cons.mpr ⟨zlw_4, List.forall_mem_cons.mpr ⟨zlw_198, fun _ h => absurd h List.not_mem_nil⟩⟩⟩⟩⟩
theorem hdL_X7_back : yX7_back.cls = RX7 ∧ yX7_back.cls ≠ "java/lang/invoke/MethodHandle" ∧ yX7_back.cls ≠ "java/lang/invoke/VarHandle" ∧ (parseMethodDescriptor yX7_back.desc).map (fun d => d.parameters.length) = some 0 := by decide +kernel
theorem zlw_199 : Cond.methodLink RL 118 yX8_back ∈ wsL_law := zr_49 _ (by decide +kernel)
theorem zlw_200 : Cond.instanceMethod yX8_back ∈ wsL_law := zr_49 _ (by decide +kernel)
theorem zlw_201 : Cond.selects RX8 yX8_back yX8_back ∈ wsL_law := zr_49 _ (by decide +kernel)
theorem zlw_202 : Cond.code yX8_back cX8_back 2 (some .int) ∈ wsL_law := zr_49 _ (by decide +kernel)
theorem hkL_118 : ∀ w ∈ ([Cond.methodLink RL 118 yX8_back, Cond.instanceMethod yX8_back, Cond.selects RX8 yX8_back yX8_back, Cond.initialized RX8, Cond.code yX8_back cX8_back 2 (some .int)] : List Cond), w ∈ wsL_law := List.forall_mem_cons.mpr ⟨zlw_199, List.forall_mem_cons.mpr ⟨zlw_200, List.forall_mem_cons.mpr ⟨zlw_201, List.forall_mem_cons.mpr ⟨zlw_9, List.forall_mem_cons.mpr ⟨zlw_202, fun _ h => absurd h List.not_mem_nil⟩⟩⟩⟩⟩
theorem hdL_X8_back : yX8_back.cls = RX8 ∧ yX8_back.cls ≠ "java/lang/invoke/MethodHandle" ∧ yX8_back.cls ≠ "java/lang/invoke/VarHandle" ∧ (parseMethodDescriptor yX8_back.desc).map (fun d => d.parameters.length) = some 0 := by decide +kernel
theorem zlw_203 : Cond.methodLink RL 119 yX7_count ∈ wsL_law := zr_49 _ (by decide +kernel)
theorem zlw_204 : Cond.instanceMethod yX7_count ∈ wsL_law := zr_49 _ (by decide +kernel)
theorem zlw_205 : Cond.selects RX7 yX7_count yX7_count ∈ wsL_law := zr_49 _ (by decide +kernel)
theorem zlw_206 : Cond.code yX7_count cX7_count 2 (some .int) ∈ wsL_law := zr_49 _ (by decide +kernel)
theorem hkL_119 : ∀ w ∈ ([Cond.methodLink RL 119 yX7_count, Cond.instanceMethod yX7_count, Cond.selects RX7 yX7_count yX7_count, Cond.initialized RX7, Cond.code yX7_count cX7_count 2 (some .int)] : List Cond), w ∈ wsL_law := List.forall_mem_cons.mpr ⟨zlw_203, List.forall_mem_cons.mpr ⟨zlw_204, List.forall_mem_cons.mpr ⟨zlw_205, List.forall_mem_cons.mpr ⟨zlw_4, List.forall_mem_cons.mpr ⟨zlw_206, fun _ h => absurd h List.not_mem_nil⟩⟩⟩⟩⟩
theorem hdL_X7_count : yX7_count.cls = RX7 ∧ yX7_count.cls ≠ "java/lang/invoke/MethodHandle" ∧ yX7_count.cls ≠ "java/lang/invoke/VarHandle" ∧ (parseMethodDescriptor yX7_count.desc).map (fun d => d.parameters.length) = some 1 := by decide +kernel
theorem zlw_207 : Cond.methodLink RL 122 yX8_count ∈ wsL_law := zr_49 _ (by decide +kernel)
theorem zlw_208 : Cond.instanceMethod yX8_count ∈ wsL_law := zr_49 _ (by decide +kernel)
theorem zlw_209 : Cond.selects RX8 yX8_count yX8_count ∈ wsL_law := zr_49 _ (by decide +kernel)
theorem zlw_210 : Cond.code yX8_count cX8_count 2 (some .int) ∈ wsL_law := zr_49 _ (by decide +kernel)
theorem hkL_122 : ∀ w ∈ ([Cond.methodLink RL 122 yX8_count, Cond.instanceMethod yX8_count, Cond.selects RX8 yX8_count yX8_count, Cond.initialized RX8, Cond.code yX8_count cX8_count 2 (some .int)] : List Cond), w ∈ wsL_law := List.forall_mem_cons.mpr ⟨zlw_207, List.forall_mem_cons.mpr ⟨zlw_208, List.forall_mem_cons.mpr ⟨zlw_209, List.forall_mem_cons.mpr ⟨zlw_9, List.forall_mem_cons.mpr ⟨zlw_210, fun _ h => absurd h List.not_mem_nil⟩⟩⟩⟩⟩
theorem hdL_X8_count : yX8_count.cls = RX8 ∧ yX8_count.cls ≠ "java/lang/invoke/MethodHandle" ∧ yX8_count.cls ≠ "java/lang/invoke/VarHandle" ∧ (parseMethodDescriptor yX8_count.desc).map (fun d => d.parameters.length) = some 1 := by decide +kernel
theorem zlw_211 : Cond.methodLink RL 123 yX7_sheet ∈ wsL_law := zr_49 _ (by decide +kernel)
theorem zlw_212 : Cond.instanceMethod yX7_sheet ∈ wsL_law := zr_49 _ (by decide +kernel)
theorem zlw_213 : Cond.selects RX7 yX7_sheet yX7_sheet ∈ wsL_law := zr_49 _ (by decide +kernel)
theorem zlw_214 : Cond.code yX7_sheet cX7_sheet 5 (some .int) ∈ wsL_law := zr_49 _ (by decide +kernel)
theorem hkL_123 : ∀ w ∈ ([Cond.methodLink RL 123 yX7_sheet, Cond.instanceMethod yX7_sheet, Cond.selects RX7 yX7_sheet yX7_sheet, Cond.initialized RX7, Cond.code yX7_sheet cX7_sheet 5 (some .int)] : List Cond), w ∈ wsL_law := List.forall_mem_cons.mpr ⟨zlw_211, List.forall_mem_cons.mpr ⟨zlw_212, List.forall_mem_cons.mpr ⟨zlw_213, List.forall_mem_cons.mpr ⟨zlw_4, List.forall_mem_cons.mpr ⟨zlw_214, fun _ h => absurd h List.not_mem_nil⟩⟩⟩⟩⟩
theorem hdL_X7_sheet : yX7_sheet.cls = RX7 ∧ yX7_sheet.cls ≠ "java/lang/invoke/MethodHandle" ∧ yX7_sheet.cls ≠ "java/lang/invoke/VarHandle" ∧ (parseMethodDescriptor yX7_sheet.desc).map (fun d => d.parameters.length) = some 3 := by decide +kernel
theorem zlw_215 : Cond.methodLink RL 126 yX8_sheet ∈ wsL_law := zr_49 _ (by decide +kernel)
theorem zlw_216 : Cond.instanceMethod yX8_sheet ∈ wsL_law := zr_46 _ (by decide +kernel)
theorem zlw_217 : Cond.selects RX8 yX8_sheet yX8_sheet ∈ wsL_law := zr_46 _ (by decide +kernel)
theorem zlw_218 : Cond.code yX8_sheet cX8_sheet 5 (some .int) ∈ wsL_law := zr_46 _ (by decide +kernel)
theorem hkL_126 : ∀ w ∈ ([Cond.methodLink RL 126 yX8_sheet, Cond.instanceMethod yX8_sheet, Cond.selects RX8 yX8_sheet yX8_sheet, Cond.initialized RX8, Cond.code yX8_sheet cX8_sheet 5 (some .int)] : List Cond), w ∈ wsL_law := List.forall_mem_cons.mpr ⟨zlw_215, List.forall_mem_cons.mpr ⟨zlw_216, List.forall_mem_cons.mpr ⟨zlw_217, List.forall_mem_cons.mpr ⟨zlw_9, List.forall_mem_cons.mpr ⟨zlw_218, fun _ h => absurd h List.not_mem_nil⟩⟩⟩⟩⟩
theorem hdL_X8_sheet : yX8_sheet.cls = RX8 ∧ yX8_sheet.cls ≠ "java/lang/invoke/MethodHandle" ∧ yX8_sheet.cls ≠ "java/lang/invoke/VarHandle" ∧ (parseMethodDescriptor yX8_sheet.desc).map (fun d => d.parameters.length) = some 3 := by decide +kernel
theorem zlw_219 : Cond.methodLink RL 127 yX7_cell ∈ wsL_law := zr_49 _ (by decide +kernel)
theorem zlw_220 : Cond.instanceMethod yX7_cell ∈ wsL_law := zr_49 _ (by decide +kernel)
theorem zlw_221 : Cond.selects RX7 yX7_cell yX7_cell ∈ wsL_law := zr_49 _ (by decide +kernel)
theorem zlw_222 : Cond.code yX7_cell cX7_cell 5 (some .int) ∈ wsL_law := zr_49 _ (by decide +kernel)
theorem hkL_127 : ∀ w ∈ ([Cond.methodLink RL 127 yX7_cell, Cond.instanceMethod yX7_cell, Cond.selects RX7 yX7_cell yX7_cell, Cond.initialized RX7, Cond.code yX7_cell cX7_cell 5 (some .int)] : List Cond), w ∈ wsL_law := List.forall_mem_cons.mpr ⟨zlw_219, List.forall_mem_cons.mpr ⟨zlw_220, List.forall_mem_cons.mpr ⟨zlw_221, List.forall_mem_cons.mpr ⟨zlw_4, List.forall_mem_cons.mpr ⟨zlw_222, fun _ h => absurd h List.not_mem_nil⟩⟩⟩⟩⟩
theorem hdL_X7_cell : yX7_cell.cls = RX7 ∧ yX7_cell.cls ≠ "java/lang/invoke/MethodHandle" ∧ yX7_cell.cls ≠ "java/lang/invoke/VarHandle" ∧ (parseMethodDescriptor yX7_cell.desc).map (fun d => d.parameters.length) = some 3 := by decide +kernel
theorem zlw_223 : Cond.methodLink RL 130 yX8_cell ∈ wsL_law := zr_49 _ (by decide +kernel)
theorem zlw_224 : Cond.instanceMethod yX8_cell ∈ wsL_law := zr_49 _ (by decide +kernel)
theorem zlw_225 : Cond.selects RX8 yX8_cell yX8_cell ∈ wsL_law := zr_49 _ (by decide +kernel)
theorem zlw_226 : Cond.code yX8_cell cX8_cell 4 (some .int) ∈ wsL_law := zr_50 _ (by decide +kernel)
theorem hkL_130 : ∀ w ∈ ([Cond.methodLink RL 130 yX8_cell, Cond.instanceMethod yX8_cell, Cond.selects RX8 yX8_cell yX8_cell, Cond.initialized RX8, Cond.code yX8_cell cX8_cell 4 (some .int)] : List Cond), w ∈ wsL_law := List.forall_mem_cons.mpr ⟨zlw_223, List.forall_mem_cons.mpr ⟨zlw_224, List.forall_mem_cons.mpr ⟨zlw_225, List.forall_mem_cons.mpr ⟨zlw_9, List.forall_mem_cons.mpr ⟨zlw_226, fun _ h => absurd h List.not_mem_nil⟩⟩⟩⟩⟩
theorem hdL_X8_cell : yX8_cell.cls = RX8 ∧ yX8_cell.cls ≠ "java/lang/invoke/MethodHandle" ∧ yX8_cell.cls ≠ "java/lang/invoke/VarHandle" ∧ (parseMethodDescriptor yX8_cell.desc).map (fun d => d.parameters.length) = some 3 := by decide +kernel
theorem zlw_227 : Cond.methodLink RL 131 yX7_copy ∈ wsL_law := zr_50 _ (by decide +kernel)
theorem zlw_228 : Cond.instanceMethod yX7_copy ∈ wsL_law := zr_50 _ (by decide +kernel)
theorem zlw_229 : Cond.selects RX7 yX7_copy yX7_copy ∈ wsL_law := zr_50 _ (by decide +kernel)
theorem zlw_230 : Cond.code yX7_copy cX7_copy 8 (some .int) ∈ wsL_law := zr_50 _ (by decide +kernel)
theorem hkL_131 : ∀ w ∈ ([Cond.methodLink RL 131 yX7_copy, Cond.instanceMethod yX7_copy, Cond.selects RX7 yX7_copy yX7_copy, Cond.initialized RX7, Cond.code yX7_copy cX7_copy 8 (some .int)] : List Cond), w ∈ wsL_law := List.forall_mem_cons.mpr ⟨zlw_227, List.forall_mem_cons.mpr ⟨zlw_228, List.forall_mem_cons.mpr ⟨zlw_229, List.forall_mem_cons.mpr ⟨zlw_4, List.forall_mem_cons.mpr ⟨zlw_230, fun _ h => absurd h List.not_mem_nil⟩⟩⟩⟩⟩
theorem hdL_X7_copy : yX7_copy.cls = RX7 ∧ yX7_copy.cls ≠ "java/lang/invoke/MethodHandle" ∧ yX7_copy.cls ≠ "java/lang/invoke/VarHandle" ∧ (parseMethodDescriptor yX7_copy.desc).map (fun d => d.parameters.length) = some 5 := by decide +kernel
theorem zlw_231 : Cond.methodLink RL 135 yX8_copy ∈ wsL_law := zr_50 _ (by decide +kernel)
theorem zlw_232 : Cond.instanceMethod yX8_copy ∈ wsL_law := zr_50 _ (by decide +kernel)
theorem zlw_233 : Cond.selects RX8 yX8_copy yX8_copy ∈ wsL_law := zr_50 _ (by decide +kernel)
theorem zlw_234 : Cond.code yX8_copy cX8_copy 9 (some .int) ∈ wsL_law := zr_50 _ (by decide +kernel)
theorem hkL_135 : ∀ w ∈ ([Cond.methodLink RL 135 yX8_copy, Cond.instanceMethod yX8_copy, Cond.selects RX8 yX8_copy yX8_copy, Cond.initialized RX8, Cond.code yX8_copy cX8_copy 9 (some .int)] : List Cond), w ∈ wsL_law := List.forall_mem_cons.mpr ⟨zlw_231, List.forall_mem_cons.mpr ⟨zlw_232, List.forall_mem_cons.mpr ⟨zlw_233, List.forall_mem_cons.mpr ⟨zlw_9, List.forall_mem_cons.mpr ⟨zlw_234, fun _ h => absurd h List.not_mem_nil⟩⟩⟩⟩⟩
theorem hdL_X8_copy : yX8_copy.cls = RX8 ∧ yX8_copy.cls ≠ "java/lang/invoke/MethodHandle" ∧ yX8_copy.cls ≠ "java/lang/invoke/VarHandle" ∧ (parseMethodDescriptor yX8_copy.desc).map (fun d => d.parameters.length) = some 5 := by decide +kernel
theorem zlw_235 : Cond.methodLink RL 136 yX7_askers ∈ wsL_law := zr_50 _ (by decide +kernel)
theorem zlw_236 : Cond.instanceMethod yX7_askers ∈ wsL_law := zr_50 _ (by decide +kernel)
theorem zlw_237 : Cond.selects RX7 yX7_askers yX7_askers ∈ wsL_law := zr_50 _ (by decide +kernel)
theorem zlw_238 : Cond.code yX7_askers cX7_askers 9 (some .int) ∈ wsL_law := zr_50 _ (by decide +kernel)
theorem hkL_136 : ∀ w ∈ ([Cond.methodLink RL 136 yX7_askers, Cond.instanceMethod yX7_askers, Cond.selects RX7 yX7_askers yX7_askers, Cond.initialized RX7, Cond.code yX7_askers cX7_askers 9 (some .int)] : List Cond), w ∈ wsL_law := List.forall_mem_cons.mpr ⟨zlw_235, List.forall_mem_cons.mpr ⟨zlw_236, List.forall_mem_cons.mpr ⟨zlw_237, List.forall_mem_cons.mpr ⟨zlw_4, List.forall_mem_cons.mpr ⟨zlw_238, fun _ h => absurd h List.not_mem_nil⟩⟩⟩⟩⟩
theorem hdL_X7_askers : yX7_askers.cls = RX7 ∧ yX7_askers.cls ≠ "java/lang/invoke/MethodHandle" ∧ yX7_askers.cls ≠ "java/lang/invoke/VarHandle" ∧ (parseMethodDescriptor yX7_askers.desc).map (fun d => d.parameters.length) = some 4 := by decide +kernel
theorem zlw_239 : Cond.methodLink RL 140 yX8_askers ∈ wsL_law := zr_51 _ (by decide +kernel)
theorem zlw_240 : Cond.instanceMethod yX8_askers ∈ wsL_law := zr_51 _ (by decide +kernel)
theorem zlw_241 : Cond.selects RX8 yX8_askers yX8_askers ∈ wsL_law := zr_51 _ (by decide +kernel)
theorem zlw_242 : Cond.code yX8_askers cX8_askers 8 (some .int) ∈ wsL_law := zr_51 _ (by decide +kernel)
theorem hkL_140 : ∀ w ∈ ([Cond.methodLink RL 140 yX8_askers, Cond.instanceMethod yX8_askers, Cond.selects RX8 yX8_askers yX8_askers, Cond.initialized RX8, Cond.code yX8_askers cX8_askers 8 (some .int)] : List Cond), w ∈ wsL_law := List.forall_mem_cons.mpr ⟨zlw_239, List.forall_mem_cons.mpr ⟨zlw_240, List.forall_mem_cons.mpr ⟨zlw_241, List.forall_mem_cons.mpr ⟨zlw_9, List.forall_mem_cons.mpr ⟨zlw_242, fun _ h => absurd h List.not_mem_nil⟩⟩⟩⟩⟩
theorem hdL_X8_askers : yX8_askers.cls = RX8 ∧ yX8_askers.cls ≠ "java/lang/invoke/MethodHandle" ∧ yX8_askers.cls ≠ "java/lang/invoke/VarHandle" ∧ (parseMethodDescriptor yX8_askers.desc).map (fun d => d.parameters.length) = some 4 := by decide +kernel
theorem zlw_243 : Cond.methodLink RL 141 yX7_taken ∈ wsL_law := zr_51 _ (by decide +kernel)
theorem zlw_244 : Cond.instanceMethod yX7_taken ∈ wsL_law := zr_51 _ (by decide +kernel)
theorem zlw_245 : Cond.selects RX7 yX7_taken yX7_taken ∈ wsL_law := zr_51 _ (by decide +kernel)
theorem zlw_246 : Cond.code yX7_taken cX7_taken 6 (some .int) ∈ wsL_law := zr_51 _ (by decide +kernel)
theorem hkL_141 : ∀ w ∈ ([Cond.methodLink RL 141 yX7_taken, Cond.instanceMethod yX7_taken, Cond.selects RX7 yX7_taken yX7_taken, Cond.initialized RX7, Cond.code yX7_taken cX7_taken 6 (some .int)] : List Cond), w ∈ wsL_law := List.forall_mem_cons.mpr ⟨zlw_243, List.forall_mem_cons.mpr ⟨zlw_244, List.forall_mem_cons.mpr ⟨zlw_245, List.forall_mem_cons.mpr ⟨zlw_4, List.forall_mem_cons.mpr ⟨zlw_246, fun _ h => absurd h List.not_mem_nil⟩⟩⟩⟩⟩
theorem hdL_X7_taken : yX7_taken.cls = RX7 ∧ yX7_taken.cls ≠ "java/lang/invoke/MethodHandle" ∧ yX7_taken.cls ≠ "java/lang/invoke/VarHandle" ∧ (parseMethodDescriptor yX7_taken.desc).map (fun d => d.parameters.length) = some 2 := by decide +kernel
theorem zlw_247 : Cond.methodLink RL 144 yX8_taken ∈ wsL_law := zr_51 _ (by decide +kernel)
theorem zlw_248 : Cond.instanceMethod yX8_taken ∈ wsL_law := zr_51 _ (by decide +kernel)
theorem zlw_249 : Cond.selects RX8 yX8_taken yX8_taken ∈ wsL_law := zr_51 _ (by decide +kernel)
theorem zlw_250 : Cond.code yX8_taken cX8_taken 4 (some .int) ∈ wsL_law := zr_51 _ (by decide +kernel)
theorem hkL_144 : ∀ w ∈ ([Cond.methodLink RL 144 yX8_taken, Cond.instanceMethod yX8_taken, Cond.selects RX8 yX8_taken yX8_taken, Cond.initialized RX8, Cond.code yX8_taken cX8_taken 4 (some .int)] : List Cond), w ∈ wsL_law := List.forall_mem_cons.mpr ⟨zlw_247, List.forall_mem_cons.mpr ⟨zlw_248, List.forall_mem_cons.mpr ⟨zlw_249, List.forall_mem_cons.mpr ⟨zlw_9, List.forall_mem_cons.mpr ⟨zlw_250, fun _ h => absurd h List.not_mem_nil⟩⟩⟩⟩⟩
theorem hdL_X8_taken : yX8_taken.cls = RX8 ∧ yX8_taken.cls ≠ "java/lang/invoke/MethodHandle" ∧ yX8_taken.cls ≠ "java/lang/invoke/VarHandle" ∧ (parseMethodDescriptor yX8_taken.desc).map (fun d => d.parameters.length) = some 2 := by decide +kernel
def LawT (Inv : zS → zS → Prop) : Prop := (∀ (a0 : Int32) (a1 : Int32) (a2 : Int32), TM2 Inv (fun st => fX7_like 0 a0 a1 a2 st) (fun st => fX8_like 0 a0 a1 a2 st)) ∧ (∀ (a0 : Int32) (a1 : Int32) (a2 : Int32), TM2 Inv (fun st => fX7_set 0 a0 a1 a2 st) (fun st => fX8_set 0 a0 a1 a2 st)) ∧ (∀ (a0 : Int32) (a1 : Int32), TM2 Inv (fun st => fX7_asker 0 a0 a1 st) (fun st => fX8_asker 0 a0 a1 st)) ∧ (∀ (a0 : Int32) (a1 : Int32), TM2 Inv (fun st => fX7_told 0 a0 a1 st) (fun st => fX8_told 0 a0 a1 st)) ∧ (∀ (a0 : Int32) (a1 : Int32) (a2 : Int32), TM2 Inv (fun st => fX7_asks 0 a0 a1 a2 st) (fun st => fX8_asks 0 a0 a1 a2 st)) ∧ (∀ (a0 : Int32) (a1 : Int32), TM2 Inv (fun st => fX7_glad 0 a0 a1 st) (fun st => fX8_glad 0 a0 a1 st)) ∧ (∀ (a0 : Int32), TM2 Inv (fun st => fX7_feed 0 a0 st) (fun st => fX8_feed 0 a0 st)) ∧ (TM2 Inv (fun st => fX7_text 0 st) (fun st => fX8_text 0 st)) ∧ (∀ (a0 : Int32), TM2 Inv (fun st => fX7_force 0 a0 st) (fun st => fX8_force 0 a0 st)) ∧ (∀ (a0 : Int32) (a1 : Int32), TM2 Inv (fun st => fX7_ask 0 a0 a1 st) (fun st => fX8_ask 0 a0 a1 st)) ∧ (TM2 Inv (fun st => fX7_day 0 st) (fun st => fX8_day 0 st)) ∧ (∀ (a0 : Int32) (a1 : Int32) (a2 : Int32), TM2 Inv (fun st => fX7_row 0 a0 a1 a2 st) (fun st => fX8_row 0 a0 a1 a2 st)) ∧ (∀ (a0 : Int32) (a1 : Int32), TM2 Inv (fun st => fX7_rows 0 a0 a1 st) (fun st => fX8_rows 0 a0 a1 st)) ∧ (∀ (a0 : Int32) (a1 : Int32) (a2 : Int32), TM2 Inv (fun st => fX7_leave 0 a0 a1 a2 st) (fun st => fX8_leave 0 a0 a1 a2 st)) ∧ (∀ (a0 : Int32) (a1 : Int32), TM2 Inv (fun st => fX7_gladdest 0 a0 a1 st) (fun st => fX8_gladdest 0 a0 a1 st)) ∧ (∀ (a0 : Int32) (a1 : Int32) (a2 : Int32), TM2 Inv (fun st => fX7_get 0 a0 a1 a2 st) (fun st => fX8_get 0 a0 a1 a2 st)) ∧ (∀ (a0 : Int32), TM2 Inv (fun st => fX7_map 0 a0 st) (fun st => fX8_map 0 a0 st)) ∧ (∀ (a0 : Int32), TM2 Inv (fun st => fX7_net 0 a0 st) (fun st => fX8_net 0 a0 st)) ∧ (∀ (a0 : Int32) (a1 : Int32), TM2 Inv (fun st => fX7_share 0 a0 a1 st) (fun st => fX8_share 0 a0 a1 st)) ∧ (∀ (a0 : Int32) (a1 : Int32) (a2 : Int32), TM2 Inv (fun st => fX7_tells 0 a0 a1 a2 st) (fun st => fX8_tells 0 a0 a1 a2 st)) ∧ (∀ (a0 : Int32) (a1 : Int32), TM2 Inv (fun st => fX7_film 0 a0 a1 st) (fun st => fX8_film 0 a0 a1 st)) ∧ (∀ (a0 : Int32) (a1 : Int32) (a2 : Int32), TM2 Inv (fun st => fX7_drawn 0 a0 a1 a2 st) (fun st => fX8_drawn 0 a0 a1 a2 st)) ∧ (∀ (a0 : Int32) (a1 : Int32) (a2 : Int32) (a3 : Int32) (a4 : Int32), TM2 Inv (fun st => fX7_chance 0 a0 a1 a2 a3 a4 st) (fun st => fX8_chance 0 a0 a1 a2 a3 a4 st)) ∧ (TM2 Inv (fun st => fX7_image 0 st) (fun st => fX8_image 0 st)) ∧ (TM2 Inv (fun st => fX7_back 0 st) (fun st => fX8_back 0 st)) ∧ (∀ (a0 : Int32), TM2 Inv (fun st => fX7_count 0 a0 st) (fun st => fX8_count 0 a0 st)) ∧ (∀ (a0 : Int32) (a1 : Int32) (a2 : Int32), TM2 Inv (fun st => fX7_sheet 0 a0 a1 a2 st) (fun st => fX8_sheet 0 a0 a1 a2 st)) ∧ (∀ (a0 : Int32) (a1 : Int32) (a2 : Int32), TM2 Inv (fun st => fX7_cell 0 a0 a1 a2 st) (fun st => fX8_cell 0 a0 a1 a2 st)) ∧ (∀ (a0 : Int32) (a1 : Int32) (a2 : Int32) (a3 : Int32) (a4 : Int32), TM2 Inv (fun st => fX7_copy 0 a0 a1 a2 a3 a4 st) (fun st => fX8_copy 0 a0 a1 a2 a3 a4 st)) ∧ (∀ (a0 : Int32) (a1 : Int32) (a2 : Int32) (a3 : Int32), TM2 Inv (fun st => fX7_askers 0 a0 a1 a2 a3 st) (fun st => fX8_askers 0 a0 a1 a2 a3 st)) ∧ (∀ (a0 : Int32) (a1 : Int32), TM2 Inv (fun st => fX7_taken 0 a0 a1 st) (fun st => fX8_taken 0 a0 a1 st))
theorem lg_cmp_self (r : Int64) : lg_cmp r r = 0 := by unfold lg_cmp; simp
set_option maxRecDepth 100000 in
set_option maxHeartbeats 4000000 in
theorem law_like {p : Program} {e : Env} {s : State} {m : MethodId} {below : List Frame} {meth : Method} {c : Code} (l : Launch) {b L : Nat} {xs : Nat → Int32} (hx : p.tables.exec = Jvm.exec) (hb : c.code = code) (hr : meth.sig.returnType = ret) (hml : c.maxLocals = 4) (hown : s.vm.findClass RL = some m.cls) (hts : ∀ w ∈ wsL_law, w.before #[Value.ref b] s = true) (hX : va_X b L xs s s.heap) (hbl : b < s.heap.size) (hlocks : meth.locks = false) (hL : L ≤ 3072) {Z : zZ} {bX bM : Nat} (hbX : s.heap.size ≤ bX) (hbM : bM = bX + 59) (hKv : va_K Z.1 vwCl (zT Z.2.1) s) (hB : zB Z.2.2 bX s) {Inv : zS → zS → Prop} (hN : ∀ X M, Inv X M → X.1 = 59 ∧ M.1 = 16) (hT : ∀ (a0 : Int32) (a1 : Int32) (a2 : Int32), TM2 Inv (fun st => fX7_like 0 a0 a1 a2 st) (fun st => fX8_like 0 a0 a1 a2 st)) {cells slots : Nat} (hcs : cells ≤ room_1.cells ∧ slots ≤ room_1.slots) {k : Nat} {ix : Int32} (hix : ix = nI k) (hk6 : k + 6 ≤ L) {stX stM : zS} (hInv : Inv stX stM) {H : Heap} {locs : List Loc} {ls : Array Slot} (hIX : zI Z spX bX none (zA bX 59) stX H) (hIM : zI Z spM bM none (zA bM 16) stM H) (hS : va_S (fun q => s.heap.size ≤ q) s.heap H locs) (hl : lv_has ls 4 [(0, .ref b), (1, .ref bX), (2, .ref bM), (3, .int ix)]) (hgo : ∀ (H1 : Heap) (locs1 : List Loc) (X1 M1 : zS), Inv X1 M1 → zI Z spX bX none (zA bX 59) X1 H1 → zI Z spM bM none (zA bM 16) M1 H1 → va_S (fun q => s.heap.size ≤ q) s.heap H1 locs1 → W p l e room_1 s m #[Value.ref b] below meth c H1 locs1 cells slots (lw_Z below #[Value.ref b] s) (F0 m 1247 ls [])) : W p l e room_1 s m #[Value.ref b] below meth c H locs cells slots (lw_Z below #[Value.ref b] s) (F0 m 172 ls []) := by
  have hbA : ¬ s.heap.size ≤ b := Nat.not_le.mpr hbl
  obtain ⟨r, X1, M1, eX, eM, hI1⟩ := hT (xs (ix + 1).toNatClampNeg) (xs (ix + 2).toNatClampNeg) (xs (ix + 3).toNatClampNeg) stX stM hInv
  refine lv_aload_n hx hb dL_law_172 rfl (lv_at hl 1 rfl) ?_
  refine lv_aload_n hx hb dL_law_173 rfl (lv_at hl 0 rfl) ?_
  refine lv_iload_n hx hb dL_law_174 rfl (lv_at hl 3 rfl) ?_
  refine lv_iconst (v := 1) hx hb dL_law_175 (by decide) ?_
  refine lv_iadd hx hb dL_law_176 ?_
  refine va_sld hx hb hX hbl hbA hS (lw_in hL hk6 (j := 1) (by decide) hix rfl rfl) dL_law_177 ?_
  refine lv_aload_n hx hb dL_law_178 rfl (lv_at hl 0 rfl) ?_
  refine lv_iload_n hx hb dL_law_179 rfl (lv_at hl 3 rfl) ?_
  refine lv_iconst (v := 2) hx hb dL_law_180 (by decide) ?_
  refine lv_iadd hx hb dL_law_181 ?_
  refine va_sld hx hb hX hbl hbA hS (lw_in hL hk6 (j := 2) (by decide) hix rfl rfl) dL_law_182 ?_
  refine lv_aload_n hx hb dL_law_183 rfl (lv_at hl 0 rfl) ?_
  refine lv_iload_n hx hb dL_law_184 rfl (lv_at hl 3 rfl) ?_
  refine lv_iconst (v := 3) hx hb dL_law_185 (by decide) ?_
  refine lv_iadd hx hb dL_law_186 ?_
  refine va_sld hx hb hX hbl hbA hS (lw_in hL hk6 (j := 3) (by decide) hix rfl rfl) dL_law_187 ?_
  refine lw_call (sp := spX) (b := bX) (n1 := 59) (A := fun q => s.heap.size ≤ q) (As := [vI (xs (ix + 1).toNatClampNeg), vI (xs (ix + 2).toNatClampNeg), vI (xs (ix + 3).toNatClampNeg)]) (rest := []) (ci := 7) ⟨hx, hb, hml, hown, hts⟩ hKv hB (kX7_like l Z bX none 0 _ _ _ stX) eX (hN _ _ hInv).1 (by decide) rfl rfl (by decide) hkL_13 ⟨rfl, rfl⟩ hdL_X7_like ⟨Nat.le_of_ble_eq_true rfl, Nat.le_of_ble_eq_true rfl⟩ hcs hIX (fun q h => Nat.le_trans (by omega) h.1) (fun q h => h) hS hl.1 rfl rfl (Nat.le_of_ble_eq_true rfl) dL_law_188 (fun H1 locs1 hq0 hspX1 hS => ?_)
  have hIM := zI_stay hIM (fun q h1 h2 => by have h3 : bM ≤ q := h1.1; have h4 : q < bX + 59 := h2.2; omega) hq0
  refine lv_aload_n hx hb dL_law_191 rfl (lv_at hl 2 rfl) ?_
  refine lv_aload_n hx hb dL_law_192 rfl (lv_at hl 0 rfl) ?_
  refine lv_iload_n hx hb dL_law_193 rfl (lv_at hl 3 rfl) ?_
  refine lv_iconst (v := 1) hx hb dL_law_194 (by decide) ?_
  refine lv_iadd hx hb dL_law_195 ?_
  refine va_sld hx hb hX hbl hbA hS (lw_in hL hk6 (j := 1) (by decide) hix rfl rfl) dL_law_196 ?_
  refine lv_aload_n hx hb dL_law_197 rfl (lv_at hl 0 rfl) ?_
  refine lv_iload_n hx hb dL_law_198 rfl (lv_at hl 3 rfl) ?_
  refine lv_iconst (v := 2) hx hb dL_law_199 (by decide) ?_
  refine lv_iadd hx hb dL_law_200 ?_
  refine va_sld hx hb hX hbl hbA hS (lw_in hL hk6 (j := 2) (by decide) hix rfl rfl) dL_law_201 ?_
  refine lv_aload_n hx hb dL_law_202 rfl (lv_at hl 0 rfl) ?_
  refine lv_iload_n hx hb dL_law_203 rfl (lv_at hl 3 rfl) ?_
  refine lv_iconst (v := 3) hx hb dL_law_204 (by decide) ?_
  refine lv_iadd hx hb dL_law_205 ?_
  refine va_sld hx hb hX hbl hbA hS (lw_in hL hk6 (j := 3) (by decide) hix rfl rfl) dL_law_206 ?_
  refine lw_call (sp := spM) (b := bM) (n1 := 16) (A := fun q => s.heap.size ≤ q) (As := [vI (xs (ix + 1).toNatClampNeg), vI (xs (ix + 2).toNatClampNeg), vI (xs (ix + 3).toNatClampNeg)]) (rest := [zval 0 (vI r)]) (ci := 8) ⟨hx, hb, hml, hown, hts⟩ hKv (zB_mono hB (by omega)) (kX8_like l Z bM none 0 _ _ _ stM) eM (hN _ _ hInv).2 (by decide) rfl rfl (by decide) hkL_17 ⟨rfl, rfl⟩ hdL_X8_like ⟨Nat.le_of_ble_eq_true rfl, Nat.le_of_ble_eq_true rfl⟩ hcs hIM (fun q h => Nat.le_trans (by omega) h.1) (fun q h => h) hS hl.1 rfl rfl (Nat.le_of_ble_eq_true rfl) dL_law_207 (fun H1 locs1 hq1 hspM1 hS => ?_)
  have hspX1 := zI_stay hspX1 (fun q h1 h2 => by have h3 : bM ≤ q := h2.1; have h4 : q < bX + 59 := h1.2; omega) hq1
  refine lv_icmp_eq (tgt := 1247) hx hb dL_law_210 (by decide) (fun _ => ?_) (fun h => absurd rfl h)
  exact hgo H1 locs1 X1 M1 hI1 hspX1 hspM1 hS
set_option maxRecDepth 100000 in
set_option maxHeartbeats 4000000 in
theorem law_set {p : Program} {e : Env} {s : State} {m : MethodId} {below : List Frame} {meth : Method} {c : Code} (l : Launch) {b L : Nat} {xs : Nat → Int32} (hx : p.tables.exec = Jvm.exec) (hb : c.code = code) (hr : meth.sig.returnType = ret) (hml : c.maxLocals = 4) (hown : s.vm.findClass RL = some m.cls) (hts : ∀ w ∈ wsL_law, w.before #[Value.ref b] s = true) (hX : va_X b L xs s s.heap) (hbl : b < s.heap.size) (hlocks : meth.locks = false) (hL : L ≤ 3072) {Z : zZ} {bX bM : Nat} (hbX : s.heap.size ≤ bX) (hbM : bM = bX + 59) (hKv : va_K Z.1 vwCl (zT Z.2.1) s) (hB : zB Z.2.2 bX s) {Inv : zS → zS → Prop} (hN : ∀ X M, Inv X M → X.1 = 59 ∧ M.1 = 16) (hT : ∀ (a0 : Int32) (a1 : Int32) (a2 : Int32), TM2 Inv (fun st => fX7_set 0 a0 a1 a2 st) (fun st => fX8_set 0 a0 a1 a2 st)) {cells slots : Nat} (hcs : cells ≤ room_1.cells ∧ slots ≤ room_1.slots) {k : Nat} {ix : Int32} (hix : ix = nI k) (hk6 : k + 6 ≤ L) {stX stM : zS} (hInv : Inv stX stM) {H : Heap} {locs : List Loc} {ls : Array Slot} (hIX : zI Z spX bX none (zA bX 59) stX H) (hIM : zI Z spM bM none (zA bM 16) stM H) (hS : va_S (fun q => s.heap.size ≤ q) s.heap H locs) (hl : lv_has ls 4 [(0, .ref b), (1, .ref bX), (2, .ref bM), (3, .int ix)]) (hgo : ∀ (H1 : Heap) (locs1 : List Loc) (X1 M1 : zS), Inv X1 M1 → zI Z spX bX none (zA bX 59) X1 H1 → zI Z spM bM none (zA bM 16) M1 H1 → va_S (fun q => s.heap.size ≤ q) s.heap H1 locs1 → W p l e room_1 s m #[Value.ref b] below meth c H1 locs1 cells slots (lw_Z below #[Value.ref b] s) (F0 m 1247 ls [])) : W p l e room_1 s m #[Value.ref b] below meth c H locs cells slots (lw_Z below #[Value.ref b] s) (F0 m 215 ls []) := by
  have hbA : ¬ s.heap.size ≤ b := Nat.not_le.mpr hbl
  obtain ⟨r, X1, M1, eX, eM, hI1⟩ := hT (xs (ix + 1).toNatClampNeg) (xs (ix + 2).toNatClampNeg) (xs (ix + 3).toNatClampNeg) stX stM hInv
  refine lv_aload_n hx hb dL_law_215 rfl (lv_at hl 1 rfl) ?_
  refine lv_aload_n hx hb dL_law_216 rfl (lv_at hl 0 rfl) ?_
  refine lv_iload_n hx hb dL_law_217 rfl (lv_at hl 3 rfl) ?_
  refine lv_iconst (v := 1) hx hb dL_law_218 (by decide) ?_
  refine lv_iadd hx hb dL_law_219 ?_
  refine va_sld hx hb hX hbl hbA hS (lw_in hL hk6 (j := 1) (by decide) hix rfl rfl) dL_law_220 ?_
  refine lv_aload_n hx hb dL_law_221 rfl (lv_at hl 0 rfl) ?_
  refine lv_iload_n hx hb dL_law_222 rfl (lv_at hl 3 rfl) ?_
  refine lv_iconst (v := 2) hx hb dL_law_223 (by decide) ?_
  refine lv_iadd hx hb dL_law_224 ?_
  refine va_sld hx hb hX hbl hbA hS (lw_in hL hk6 (j := 2) (by decide) hix rfl rfl) dL_law_225 ?_
  refine lv_aload_n hx hb dL_law_226 rfl (lv_at hl 0 rfl) ?_
  refine lv_iload_n hx hb dL_law_227 rfl (lv_at hl 3 rfl) ?_
  refine lv_iconst (v := 3) hx hb dL_law_228 (by decide) ?_
  refine lv_iadd hx hb dL_law_229 ?_
  refine va_sld hx hb hX hbl hbA hS (lw_in hL hk6 (j := 3) (by decide) hix rfl rfl) dL_law_230 ?_
  refine lw_call (sp := spX) (b := bX) (n1 := 59) (A := fun q => s.heap.size ≤ q) (As := [vI (xs (ix + 1).toNatClampNeg), vI (xs (ix + 2).toNatClampNeg), vI (xs (ix + 3).toNatClampNeg)]) (rest := []) (ci := 7) ⟨hx, hb, hml, hown, hts⟩ hKv hB (kX7_set l Z bX none 0 _ _ _ stX) eX (hN _ _ hInv).1 (by decide) rfl rfl (by decide) hkL_18 ⟨rfl, rfl⟩ hdL_X7_set ⟨Nat.le_of_ble_eq_true rfl, Nat.le_of_ble_eq_true rfl⟩ hcs hIX (fun q h => Nat.le_trans (by omega) h.1) (fun q h => h) hS hl.1 rfl rfl (Nat.le_of_ble_eq_true rfl) dL_law_231 (fun H1 locs1 hq0 hspX1 hS => ?_)
  have hIM := zI_stay hIM (fun q h1 h2 => by have h3 : bM ≤ q := h1.1; have h4 : q < bX + 59 := h2.2; omega) hq0
  refine lv_aload_n hx hb dL_law_234 rfl (lv_at hl 2 rfl) ?_
  refine lv_aload_n hx hb dL_law_235 rfl (lv_at hl 0 rfl) ?_
  refine lv_iload_n hx hb dL_law_236 rfl (lv_at hl 3 rfl) ?_
  refine lv_iconst (v := 1) hx hb dL_law_237 (by decide) ?_
  refine lv_iadd hx hb dL_law_238 ?_
  refine va_sld hx hb hX hbl hbA hS (lw_in hL hk6 (j := 1) (by decide) hix rfl rfl) dL_law_239 ?_
  refine lv_aload_n hx hb dL_law_240 rfl (lv_at hl 0 rfl) ?_
  refine lv_iload_n hx hb dL_law_241 rfl (lv_at hl 3 rfl) ?_
  refine lv_iconst (v := 2) hx hb dL_law_242 (by decide) ?_
  refine lv_iadd hx hb dL_law_243 ?_
  refine va_sld hx hb hX hbl hbA hS (lw_in hL hk6 (j := 2) (by decide) hix rfl rfl) dL_law_244 ?_
  refine lv_aload_n hx hb dL_law_245 rfl (lv_at hl 0 rfl) ?_
  refine lv_iload_n hx hb dL_law_246 rfl (lv_at hl 3 rfl) ?_
  refine lv_iconst (v := 3) hx hb dL_law_247 (by decide) ?_
  refine lv_iadd hx hb dL_law_248 ?_
  refine va_sld hx hb hX hbl hbA hS (lw_in hL hk6 (j := 3) (by decide) hix rfl rfl) dL_law_249 ?_
  refine lw_call (sp := spM) (b := bM) (n1 := 16) (A := fun q => s.heap.size ≤ q) (As := [vI (xs (ix + 1).toNatClampNeg), vI (xs (ix + 2).toNatClampNeg), vI (xs (ix + 3).toNatClampNeg)]) (rest := [zval 0 (vI r)]) (ci := 8) ⟨hx, hb, hml, hown, hts⟩ hKv (zB_mono hB (by omega)) (kX8_set l Z bM none 0 _ _ _ stM) eM (hN _ _ hInv).2 (by decide) rfl rfl (by decide) hkL_21 ⟨rfl, rfl⟩ hdL_X8_set ⟨Nat.le_of_ble_eq_true rfl, Nat.le_of_ble_eq_true rfl⟩ hcs hIM (fun q h => Nat.le_trans (by omega) h.1) (fun q h => h) hS hl.1 rfl rfl (Nat.le_of_ble_eq_true rfl) dL_law_250 (fun H1 locs1 hq1 hspM1 hS => ?_)
  have hspX1 := zI_stay hspX1 (fun q h1 h2 => by have h3 : bM ≤ q := h2.1; have h4 : q < bX + 59 := h1.2; omega) hq1
  refine lv_icmp_eq (tgt := 1247) hx hb dL_law_253 (by decide) (fun _ => ?_) (fun h => absurd rfl h)
  exact hgo H1 locs1 X1 M1 hI1 hspX1 hspM1 hS
set_option maxRecDepth 100000 in
set_option maxHeartbeats 4000000 in
theorem law_asker {p : Program} {e : Env} {s : State} {m : MethodId} {below : List Frame} {meth : Method} {c : Code} (l : Launch) {b L : Nat} {xs : Nat → Int32} (hx : p.tables.exec = Jvm.exec) (hb : c.code = code) (hr : meth.sig.returnType = ret) (hml : c.maxLocals = 4) (hown : s.vm.findClass RL = some m.cls) (hts : ∀ w ∈ wsL_law, w.before #[Value.ref b] s = true) (hX : va_X b L xs s s.heap) (hbl : b < s.heap.size) (hlocks : meth.locks = false) (hL : L ≤ 3072) {Z : zZ} {bX bM : Nat} (hbX : s.heap.size ≤ bX) (hbM : bM = bX + 59) (hKv : va_K Z.1 vwCl (zT Z.2.1) s) (hB : zB Z.2.2 bX s) {Inv : zS → zS → Prop} (hN : ∀ X M, Inv X M → X.1 = 59 ∧ M.1 = 16) (hT : ∀ (a0 : Int32) (a1 : Int32), TM2 Inv (fun st => fX7_asker 0 a0 a1 st) (fun st => fX8_asker 0 a0 a1 st)) {cells slots : Nat} (hcs : cells ≤ room_1.cells ∧ slots ≤ room_1.slots) {k : Nat} {ix : Int32} (hix : ix = nI k) (hk6 : k + 6 ≤ L) {stX stM : zS} (hInv : Inv stX stM) {H : Heap} {locs : List Loc} {ls : Array Slot} (hIX : zI Z spX bX none (zA bX 59) stX H) (hIM : zI Z spM bM none (zA bM 16) stM H) (hS : va_S (fun q => s.heap.size ≤ q) s.heap H locs) (hl : lv_has ls 4 [(0, .ref b), (1, .ref bX), (2, .ref bM), (3, .int ix)]) (hgo : ∀ (H1 : Heap) (locs1 : List Loc) (X1 M1 : zS), Inv X1 M1 → zI Z spX bX none (zA bX 59) X1 H1 → zI Z spM bM none (zA bM 16) M1 H1 → va_S (fun q => s.heap.size ≤ q) s.heap H1 locs1 → W p l e room_1 s m #[Value.ref b] below meth c H1 locs1 cells slots (lw_Z below #[Value.ref b] s) (F0 m 1247 ls [])) : W p l e room_1 s m #[Value.ref b] below meth c H locs cells slots (lw_Z below #[Value.ref b] s) (F0 m 258 ls []) := by
  have hbA : ¬ s.heap.size ≤ b := Nat.not_le.mpr hbl
  obtain ⟨r, X1, M1, eX, eM, hI1⟩ := hT (xs (ix + 1).toNatClampNeg) (xs (ix + 2).toNatClampNeg) stX stM hInv
  refine lv_aload_n hx hb dL_law_258 rfl (lv_at hl 1 rfl) ?_
  refine lv_aload_n hx hb dL_law_259 rfl (lv_at hl 0 rfl) ?_
  refine lv_iload_n hx hb dL_law_260 rfl (lv_at hl 3 rfl) ?_
  refine lv_iconst (v := 1) hx hb dL_law_261 (by decide) ?_
  refine lv_iadd hx hb dL_law_262 ?_
  refine va_sld hx hb hX hbl hbA hS (lw_in hL hk6 (j := 1) (by decide) hix rfl rfl) dL_law_263 ?_
  refine lv_aload_n hx hb dL_law_264 rfl (lv_at hl 0 rfl) ?_
  refine lv_iload_n hx hb dL_law_265 rfl (lv_at hl 3 rfl) ?_
  refine lv_iconst (v := 2) hx hb dL_law_266 (by decide) ?_
  refine lv_iadd hx hb dL_law_267 ?_
  refine va_sld hx hb hX hbl hbA hS (lw_in hL hk6 (j := 2) (by decide) hix rfl rfl) dL_law_268 ?_
  refine lw_call (sp := spX) (b := bX) (n1 := 59) (A := fun q => s.heap.size ≤ q) (As := [vI (xs (ix + 1).toNatClampNeg), vI (xs (ix + 2).toNatClampNeg)]) (rest := []) (ci := 7) ⟨hx, hb, hml, hown, hts⟩ hKv hB (kX7_asker l Z bX none 0 _ _ stX) eX (hN _ _ hInv).1 (by decide) rfl rfl (by decide) hkL_22 ⟨rfl, rfl⟩ hdL_X7_asker ⟨Nat.le_of_ble_eq_true rfl, Nat.le_of_ble_eq_true rfl⟩ hcs hIX (fun q h => Nat.le_trans (by omega) h.1) (fun q h => h) hS hl.1 rfl rfl (Nat.le_of_ble_eq_true rfl) dL_law_269 (fun H1 locs1 hq0 hspX1 hS => ?_)
  have hIM := zI_stay hIM (fun q h1 h2 => by have h3 : bM ≤ q := h1.1; have h4 : q < bX + 59 := h2.2; omega) hq0
  refine lv_aload_n hx hb dL_law_272 rfl (lv_at hl 2 rfl) ?_
  refine lv_aload_n hx hb dL_law_273 rfl (lv_at hl 0 rfl) ?_
  refine lv_iload_n hx hb dL_law_274 rfl (lv_at hl 3 rfl) ?_
  refine lv_iconst (v := 1) hx hb dL_law_275 (by decide) ?_
  refine lv_iadd hx hb dL_law_276 ?_
  refine va_sld hx hb hX hbl hbA hS (lw_in hL hk6 (j := 1) (by decide) hix rfl rfl) dL_law_277 ?_
  refine lv_aload_n hx hb dL_law_278 rfl (lv_at hl 0 rfl) ?_
  refine lv_iload_n hx hb dL_law_279 rfl (lv_at hl 3 rfl) ?_
  refine lv_iconst (v := 2) hx hb dL_law_280 (by decide) ?_
  refine lv_iadd hx hb dL_law_281 ?_
  refine va_sld hx hb hX hbl hbA hS (lw_in hL hk6 (j := 2) (by decide) hix rfl rfl) dL_law_282 ?_
  refine lw_call (sp := spM) (b := bM) (n1 := 16) (A := fun q => s.heap.size ≤ q) (As := [vI (xs (ix + 1).toNatClampNeg), vI (xs (ix + 2).toNatClampNeg)]) (rest := [zval 0 (vI r)]) (ci := 8) ⟨hx, hb, hml, hown, hts⟩ hKv (zB_mono hB (by omega)) (kX8_asker l Z bM none 0 _ _ stM) eM (hN _ _ hInv).2 (by decide) rfl rfl (by decide) hkL_26 ⟨rfl, rfl⟩ hdL_X8_asker ⟨Nat.le_of_ble_eq_true rfl, Nat.le_of_ble_eq_true rfl⟩ hcs hIM (fun q h => Nat.le_trans (by omega) h.1) (fun q h => h) hS hl.1 rfl rfl (Nat.le_of_ble_eq_true rfl) dL_law_283 (fun H1 locs1 hq1 hspM1 hS => ?_)
  have hspX1 := zI_stay hspX1 (fun q h1 h2 => by have h3 : bM ≤ q := h2.1; have h4 : q < bX + 59 := h1.2; omega) hq1
  refine lv_icmp_eq (tgt := 1247) hx hb dL_law_286 (by decide) (fun _ => ?_) (fun h => absurd rfl h)
  exact hgo H1 locs1 X1 M1 hI1 hspX1 hspM1 hS
set_option maxRecDepth 100000 in
set_option maxHeartbeats 4000000 in
theorem law_told {p : Program} {e : Env} {s : State} {m : MethodId} {below : List Frame} {meth : Method} {c : Code} (l : Launch) {b L : Nat} {xs : Nat → Int32} (hx : p.tables.exec = Jvm.exec) (hb : c.code = code) (hr : meth.sig.returnType = ret) (hml : c.maxLocals = 4) (hown : s.vm.findClass RL = some m.cls) (hts : ∀ w ∈ wsL_law, w.before #[Value.ref b] s = true) (hX : va_X b L xs s s.heap) (hbl : b < s.heap.size) (hlocks : meth.locks = false) (hL : L ≤ 3072) {Z : zZ} {bX bM : Nat} (hbX : s.heap.size ≤ bX) (hbM : bM = bX + 59) (hKv : va_K Z.1 vwCl (zT Z.2.1) s) (hB : zB Z.2.2 bX s) {Inv : zS → zS → Prop} (hN : ∀ X M, Inv X M → X.1 = 59 ∧ M.1 = 16) (hT : ∀ (a0 : Int32) (a1 : Int32), TM2 Inv (fun st => fX7_told 0 a0 a1 st) (fun st => fX8_told 0 a0 a1 st)) {cells slots : Nat} (hcs : cells ≤ room_1.cells ∧ slots ≤ room_1.slots) {k : Nat} {ix : Int32} (hix : ix = nI k) (hk6 : k + 6 ≤ L) {stX stM : zS} (hInv : Inv stX stM) {H : Heap} {locs : List Loc} {ls : Array Slot} (hIX : zI Z spX bX none (zA bX 59) stX H) (hIM : zI Z spM bM none (zA bM 16) stM H) (hS : va_S (fun q => s.heap.size ≤ q) s.heap H locs) (hl : lv_has ls 4 [(0, .ref b), (1, .ref bX), (2, .ref bM), (3, .int ix)]) (hgo : ∀ (H1 : Heap) (locs1 : List Loc) (X1 M1 : zS), Inv X1 M1 → zI Z spX bX none (zA bX 59) X1 H1 → zI Z spM bM none (zA bM 16) M1 H1 → va_S (fun q => s.heap.size ≤ q) s.heap H1 locs1 → W p l e room_1 s m #[Value.ref b] below meth c H1 locs1 cells slots (lw_Z below #[Value.ref b] s) (F0 m 1247 ls [])) : W p l e room_1 s m #[Value.ref b] below meth c H locs cells slots (lw_Z below #[Value.ref b] s) (F0 m 291 ls []) := by
  have hbA : ¬ s.heap.size ≤ b := Nat.not_le.mpr hbl
  obtain ⟨r, X1, M1, eX, eM, hI1⟩ := hT (xs (ix + 1).toNatClampNeg) (xs (ix + 2).toNatClampNeg) stX stM hInv
  refine lv_aload_n hx hb dL_law_291 rfl (lv_at hl 1 rfl) ?_
  refine lv_aload_n hx hb dL_law_292 rfl (lv_at hl 0 rfl) ?_
  refine lv_iload_n hx hb dL_law_293 rfl (lv_at hl 3 rfl) ?_
  refine lv_iconst (v := 1) hx hb dL_law_294 (by decide) ?_
  refine lv_iadd hx hb dL_law_295 ?_
  refine va_sld hx hb hX hbl hbA hS (lw_in hL hk6 (j := 1) (by decide) hix rfl rfl) dL_law_296 ?_
  refine lv_aload_n hx hb dL_law_297 rfl (lv_at hl 0 rfl) ?_
  refine lv_iload_n hx hb dL_law_298 rfl (lv_at hl 3 rfl) ?_
  refine lv_iconst (v := 2) hx hb dL_law_299 (by decide) ?_
  refine lv_iadd hx hb dL_law_300 ?_
  refine va_sld hx hb hX hbl hbA hS (lw_in hL hk6 (j := 2) (by decide) hix rfl rfl) dL_law_301 ?_
  refine lw_call (sp := spX) (b := bX) (n1 := 59) (A := fun q => s.heap.size ≤ q) (As := [vI (xs (ix + 1).toNatClampNeg), vI (xs (ix + 2).toNatClampNeg)]) (rest := []) (ci := 7) ⟨hx, hb, hml, hown, hts⟩ hKv hB (kX7_told l Z bX none 0 _ _ stX) eX (hN _ _ hInv).1 (by decide) rfl rfl (by decide) hkL_27 ⟨rfl, rfl⟩ hdL_X7_told ⟨Nat.le_of_ble_eq_true rfl, Nat.le_of_ble_eq_true rfl⟩ hcs hIX (fun q h => Nat.le_trans (by omega) h.1) (fun q h => h) hS hl.1 rfl rfl (Nat.le_of_ble_eq_true rfl) dL_law_302 (fun H1 locs1 hq0 hspX1 hS => ?_)
  have hIM := zI_stay hIM (fun q h1 h2 => by have h3 : bM ≤ q := h1.1; have h4 : q < bX + 59 := h2.2; omega) hq0
  refine lv_aload_n hx hb dL_law_305 rfl (lv_at hl 2 rfl) ?_
  refine lv_aload_n hx hb dL_law_306 rfl (lv_at hl 0 rfl) ?_
  refine lv_iload_n hx hb dL_law_307 rfl (lv_at hl 3 rfl) ?_
  refine lv_iconst (v := 1) hx hb dL_law_308 (by decide) ?_
  refine lv_iadd hx hb dL_law_309 ?_
  refine va_sld hx hb hX hbl hbA hS (lw_in hL hk6 (j := 1) (by decide) hix rfl rfl) dL_law_310 ?_
  refine lv_aload_n hx hb dL_law_311 rfl (lv_at hl 0 rfl) ?_
  refine lv_iload_n hx hb dL_law_312 rfl (lv_at hl 3 rfl) ?_
  refine lv_iconst (v := 2) hx hb dL_law_313 (by decide) ?_
  refine lv_iadd hx hb dL_law_314 ?_
  refine va_sld hx hb hX hbl hbA hS (lw_in hL hk6 (j := 2) (by decide) hix rfl rfl) dL_law_315 ?_
  refine lw_call (sp := spM) (b := bM) (n1 := 16) (A := fun q => s.heap.size ≤ q) (As := [vI (xs (ix + 1).toNatClampNeg), vI (xs (ix + 2).toNatClampNeg)]) (rest := [zval 0 (vI r)]) (ci := 8) ⟨hx, hb, hml, hown, hts⟩ hKv (zB_mono hB (by omega)) (kX8_told l Z bM none 0 _ _ stM) eM (hN _ _ hInv).2 (by decide) rfl rfl (by decide) hkL_30 ⟨rfl, rfl⟩ hdL_X8_told ⟨Nat.le_of_ble_eq_true rfl, Nat.le_of_ble_eq_true rfl⟩ hcs hIM (fun q h => Nat.le_trans (by omega) h.1) (fun q h => h) hS hl.1 rfl rfl (Nat.le_of_ble_eq_true rfl) dL_law_316 (fun H1 locs1 hq1 hspM1 hS => ?_)
  have hspX1 := zI_stay hspX1 (fun q h1 h2 => by have h3 : bM ≤ q := h2.1; have h4 : q < bX + 59 := h1.2; omega) hq1
  refine lv_icmp_eq (tgt := 1247) hx hb dL_law_319 (by decide) (fun _ => ?_) (fun h => absurd rfl h)
  exact hgo H1 locs1 X1 M1 hI1 hspX1 hspM1 hS
set_option maxRecDepth 100000 in
set_option maxHeartbeats 4000000 in
theorem law_asks {p : Program} {e : Env} {s : State} {m : MethodId} {below : List Frame} {meth : Method} {c : Code} (l : Launch) {b L : Nat} {xs : Nat → Int32} (hx : p.tables.exec = Jvm.exec) (hb : c.code = code) (hr : meth.sig.returnType = ret) (hml : c.maxLocals = 4) (hown : s.vm.findClass RL = some m.cls) (hts : ∀ w ∈ wsL_law, w.before #[Value.ref b] s = true) (hX : va_X b L xs s s.heap) (hbl : b < s.heap.size) (hlocks : meth.locks = false) (hL : L ≤ 3072) {Z : zZ} {bX bM : Nat} (hbX : s.heap.size ≤ bX) (hbM : bM = bX + 59) (hKv : va_K Z.1 vwCl (zT Z.2.1) s) (hB : zB Z.2.2 bX s) {Inv : zS → zS → Prop} (hN : ∀ X M, Inv X M → X.1 = 59 ∧ M.1 = 16) (hT : ∀ (a0 : Int32) (a1 : Int32) (a2 : Int32), TM2 Inv (fun st => fX7_asks 0 a0 a1 a2 st) (fun st => fX8_asks 0 a0 a1 a2 st)) {cells slots : Nat} (hcs : cells ≤ room_1.cells ∧ slots ≤ room_1.slots) {k : Nat} {ix : Int32} (hix : ix = nI k) (hk6 : k + 6 ≤ L) {stX stM : zS} (hInv : Inv stX stM) {H : Heap} {locs : List Loc} {ls : Array Slot} (hIX : zI Z spX bX none (zA bX 59) stX H) (hIM : zI Z spM bM none (zA bM 16) stM H) (hS : va_S (fun q => s.heap.size ≤ q) s.heap H locs) (hl : lv_has ls 4 [(0, .ref b), (1, .ref bX), (2, .ref bM), (3, .int ix)]) (hgo : ∀ (H1 : Heap) (locs1 : List Loc) (X1 M1 : zS), Inv X1 M1 → zI Z spX bX none (zA bX 59) X1 H1 → zI Z spM bM none (zA bM 16) M1 H1 → va_S (fun q => s.heap.size ≤ q) s.heap H1 locs1 → W p l e room_1 s m #[Value.ref b] below meth c H1 locs1 cells slots (lw_Z below #[Value.ref b] s) (F0 m 1247 ls [])) : W p l e room_1 s m #[Value.ref b] below meth c H locs cells slots (lw_Z below #[Value.ref b] s) (F0 m 324 ls []) := by
  have hbA : ¬ s.heap.size ≤ b := Nat.not_le.mpr hbl
  obtain ⟨r, X1, M1, eX, eM, hI1⟩ := hT (xs (ix + 1).toNatClampNeg) (xs (ix + 2).toNatClampNeg) (xs (ix + 3).toNatClampNeg) stX stM hInv
  refine lv_aload_n hx hb dL_law_324 rfl (lv_at hl 1 rfl) ?_
  refine lv_aload_n hx hb dL_law_325 rfl (lv_at hl 0 rfl) ?_
  refine lv_iload_n hx hb dL_law_326 rfl (lv_at hl 3 rfl) ?_
  refine lv_iconst (v := 1) hx hb dL_law_327 (by decide) ?_
  refine lv_iadd hx hb dL_law_328 ?_
  refine va_sld hx hb hX hbl hbA hS (lw_in hL hk6 (j := 1) (by decide) hix rfl rfl) dL_law_329 ?_
  refine lv_aload_n hx hb dL_law_330 rfl (lv_at hl 0 rfl) ?_
  refine lv_iload_n hx hb dL_law_331 rfl (lv_at hl 3 rfl) ?_
  refine lv_iconst (v := 2) hx hb dL_law_332 (by decide) ?_
  refine lv_iadd hx hb dL_law_333 ?_
  refine va_sld hx hb hX hbl hbA hS (lw_in hL hk6 (j := 2) (by decide) hix rfl rfl) dL_law_334 ?_
  refine lv_aload_n hx hb dL_law_335 rfl (lv_at hl 0 rfl) ?_
  refine lv_iload_n hx hb dL_law_336 rfl (lv_at hl 3 rfl) ?_
  refine lv_iconst (v := 3) hx hb dL_law_337 (by decide) ?_
  refine lv_iadd hx hb dL_law_338 ?_
  refine va_sld hx hb hX hbl hbA hS (lw_in hL hk6 (j := 3) (by decide) hix rfl rfl) dL_law_339 ?_
  refine lw_call (sp := spX) (b := bX) (n1 := 59) (A := fun q => s.heap.size ≤ q) (As := [vI (xs (ix + 1).toNatClampNeg), vI (xs (ix + 2).toNatClampNeg), vI (xs (ix + 3).toNatClampNeg)]) (rest := []) (ci := 7) ⟨hx, hb, hml, hown, hts⟩ hKv hB (kX7_asks l Z bX none 0 _ _ _ stX) eX (hN _ _ hInv).1 (by decide) rfl rfl (by decide) hkL_31 ⟨rfl, rfl⟩ hdL_X7_asks ⟨Nat.le_of_ble_eq_true rfl, Nat.le_of_ble_eq_true rfl⟩ hcs hIX (fun q h => Nat.le_trans (by omega) h.1) (fun q h => h) hS hl.1 rfl rfl (Nat.le_of_ble_eq_true rfl) dL_law_340 (fun H1 locs1 hq0 hspX1 hS => ?_)
  have hIM := zI_stay hIM (fun q h1 h2 => by have h3 : bM ≤ q := h1.1; have h4 : q < bX + 59 := h2.2; omega) hq0
  refine lv_aload_n hx hb dL_law_343 rfl (lv_at hl 2 rfl) ?_
  refine lv_aload_n hx hb dL_law_344 rfl (lv_at hl 0 rfl) ?_
  refine lv_iload_n hx hb dL_law_345 rfl (lv_at hl 3 rfl) ?_
  refine lv_iconst (v := 1) hx hb dL_law_346 (by decide) ?_
  refine lv_iadd hx hb dL_law_347 ?_
  refine va_sld hx hb hX hbl hbA hS (lw_in hL hk6 (j := 1) (by decide) hix rfl rfl) dL_law_348 ?_
  refine lv_aload_n hx hb dL_law_349 rfl (lv_at hl 0 rfl) ?_
  refine lv_iload_n hx hb dL_law_350 rfl (lv_at hl 3 rfl) ?_
  refine lv_iconst (v := 2) hx hb dL_law_351 (by decide) ?_
  refine lv_iadd hx hb dL_law_352 ?_
  refine va_sld hx hb hX hbl hbA hS (lw_in hL hk6 (j := 2) (by decide) hix rfl rfl) dL_law_353 ?_
  refine lv_aload_n hx hb dL_law_354 rfl (lv_at hl 0 rfl) ?_
  refine lv_iload_n hx hb dL_law_355 rfl (lv_at hl 3 rfl) ?_
  refine lv_iconst (v := 3) hx hb dL_law_356 (by decide) ?_
  refine lv_iadd hx hb dL_law_357 ?_
  refine va_sld hx hb hX hbl hbA hS (lw_in hL hk6 (j := 3) (by decide) hix rfl rfl) dL_law_358 ?_
  refine lw_call (sp := spM) (b := bM) (n1 := 16) (A := fun q => s.heap.size ≤ q) (As := [vI (xs (ix + 1).toNatClampNeg), vI (xs (ix + 2).toNatClampNeg), vI (xs (ix + 3).toNatClampNeg)]) (rest := [zval 0 (vI r)]) (ci := 8) ⟨hx, hb, hml, hown, hts⟩ hKv (zB_mono hB (by omega)) (kX8_asks l Z bM none 0 _ _ _ stM) eM (hN _ _ hInv).2 (by decide) rfl rfl (by decide) hkL_34 ⟨rfl, rfl⟩ hdL_X8_asks ⟨Nat.le_of_ble_eq_true rfl, Nat.le_of_ble_eq_true rfl⟩ hcs hIM (fun q h => Nat.le_trans (by omega) h.1) (fun q h => h) hS hl.1 rfl rfl (Nat.le_of_ble_eq_true rfl) dL_law_359 (fun H1 locs1 hq1 hspM1 hS => ?_)
  have hspX1 := zI_stay hspX1 (fun q h1 h2 => by have h3 : bM ≤ q := h2.1; have h4 : q < bX + 59 := h1.2; omega) hq1
  refine lv_icmp_eq (tgt := 1247) hx hb dL_law_362 (by decide) (fun _ => ?_) (fun h => absurd rfl h)
  exact hgo H1 locs1 X1 M1 hI1 hspX1 hspM1 hS
set_option maxRecDepth 100000 in
set_option maxHeartbeats 4000000 in
theorem law_glad {p : Program} {e : Env} {s : State} {m : MethodId} {below : List Frame} {meth : Method} {c : Code} (l : Launch) {b L : Nat} {xs : Nat → Int32} (hx : p.tables.exec = Jvm.exec) (hb : c.code = code) (hr : meth.sig.returnType = ret) (hml : c.maxLocals = 4) (hown : s.vm.findClass RL = some m.cls) (hts : ∀ w ∈ wsL_law, w.before #[Value.ref b] s = true) (hX : va_X b L xs s s.heap) (hbl : b < s.heap.size) (hlocks : meth.locks = false) (hL : L ≤ 3072) {Z : zZ} {bX bM : Nat} (hbX : s.heap.size ≤ bX) (hbM : bM = bX + 59) (hKv : va_K Z.1 vwCl (zT Z.2.1) s) (hB : zB Z.2.2 bX s) {Inv : zS → zS → Prop} (hN : ∀ X M, Inv X M → X.1 = 59 ∧ M.1 = 16) (hT : ∀ (a0 : Int32) (a1 : Int32), TM2 Inv (fun st => fX7_glad 0 a0 a1 st) (fun st => fX8_glad 0 a0 a1 st)) {cells slots : Nat} (hcs : cells ≤ room_1.cells ∧ slots ≤ room_1.slots) {k : Nat} {ix : Int32} (hix : ix = nI k) (hk6 : k + 6 ≤ L) {stX stM : zS} (hInv : Inv stX stM) {H : Heap} {locs : List Loc} {ls : Array Slot} (hIX : zI Z spX bX none (zA bX 59) stX H) (hIM : zI Z spM bM none (zA bM 16) stM H) (hS : va_S (fun q => s.heap.size ≤ q) s.heap H locs) (hl : lv_has ls 4 [(0, .ref b), (1, .ref bX), (2, .ref bM), (3, .int ix)]) (hgo : ∀ (H1 : Heap) (locs1 : List Loc) (X1 M1 : zS), Inv X1 M1 → zI Z spX bX none (zA bX 59) X1 H1 → zI Z spM bM none (zA bM 16) M1 H1 → va_S (fun q => s.heap.size ≤ q) s.heap H1 locs1 → W p l e room_1 s m #[Value.ref b] below meth c H1 locs1 cells slots (lw_Z below #[Value.ref b] s) (F0 m 1247 ls [])) : W p l e room_1 s m #[Value.ref b] below meth c H locs cells slots (lw_Z below #[Value.ref b] s) (F0 m 367 ls []) := by
  have hbA : ¬ s.heap.size ≤ b := Nat.not_le.mpr hbl
  obtain ⟨r, X1, M1, eX, eM, hI1⟩ := hT (xs (ix + 1).toNatClampNeg) (xs (ix + 2).toNatClampNeg) stX stM hInv
  refine lv_aload_n hx hb dL_law_367 rfl (lv_at hl 1 rfl) ?_
  refine lv_aload_n hx hb dL_law_368 rfl (lv_at hl 0 rfl) ?_
  refine lv_iload_n hx hb dL_law_369 rfl (lv_at hl 3 rfl) ?_
  refine lv_iconst (v := 1) hx hb dL_law_370 (by decide) ?_
  refine lv_iadd hx hb dL_law_371 ?_
  refine va_sld hx hb hX hbl hbA hS (lw_in hL hk6 (j := 1) (by decide) hix rfl rfl) dL_law_372 ?_
  refine lv_aload_n hx hb dL_law_373 rfl (lv_at hl 0 rfl) ?_
  refine lv_iload_n hx hb dL_law_374 rfl (lv_at hl 3 rfl) ?_
  refine lv_iconst (v := 2) hx hb dL_law_375 (by decide) ?_
  refine lv_iadd hx hb dL_law_376 ?_
  refine va_sld hx hb hX hbl hbA hS (lw_in hL hk6 (j := 2) (by decide) hix rfl rfl) dL_law_377 ?_
  refine lw_call (sp := spX) (b := bX) (n1 := 59) (A := fun q => s.heap.size ≤ q) (As := [vI (xs (ix + 1).toNatClampNeg), vI (xs (ix + 2).toNatClampNeg)]) (rest := []) (ci := 7) ⟨hx, hb, hml, hown, hts⟩ hKv hB (kX7_glad l Z bX none 0 _ _ stX) eX (hN _ _ hInv).1 (by decide) rfl rfl (by decide) hkL_35 ⟨rfl, rfl⟩ hdL_X7_glad ⟨Nat.le_of_ble_eq_true rfl, Nat.le_of_ble_eq_true rfl⟩ hcs hIX (fun q h => Nat.le_trans (by omega) h.1) (fun q h => h) hS hl.1 rfl rfl (Nat.le_of_ble_eq_true rfl) dL_law_378 (fun H1 locs1 hq0 hspX1 hS => ?_)
  have hIM := zI_stay hIM (fun q h1 h2 => by have h3 : bM ≤ q := h1.1; have h4 : q < bX + 59 := h2.2; omega) hq0
  refine lv_aload_n hx hb dL_law_381 rfl (lv_at hl 2 rfl) ?_
  refine lv_aload_n hx hb dL_law_382 rfl (lv_at hl 0 rfl) ?_
  refine lv_iload_n hx hb dL_law_383 rfl (lv_at hl 3 rfl) ?_
  refine lv_iconst (v := 1) hx hb dL_law_384 (by decide) ?_
  refine lv_iadd hx hb dL_law_385 ?_
  refine va_sld hx hb hX hbl hbA hS (lw_in hL hk6 (j := 1) (by decide) hix rfl rfl) dL_law_386 ?_
  refine lv_aload_n hx hb dL_law_387 rfl (lv_at hl 0 rfl) ?_
  refine lv_iload_n hx hb dL_law_388 rfl (lv_at hl 3 rfl) ?_
  refine lv_iconst (v := 2) hx hb dL_law_389 (by decide) ?_
  refine lv_iadd hx hb dL_law_390 ?_
  refine va_sld hx hb hX hbl hbA hS (lw_in hL hk6 (j := 2) (by decide) hix rfl rfl) dL_law_391 ?_
  refine lw_call (sp := spM) (b := bM) (n1 := 16) (A := fun q => s.heap.size ≤ q) (As := [vI (xs (ix + 1).toNatClampNeg), vI (xs (ix + 2).toNatClampNeg)]) (rest := [zval 0 (vI r)]) (ci := 8) ⟨hx, hb, hml, hown, hts⟩ hKv (zB_mono hB (by omega)) (kX8_glad l Z bM none 0 _ _ stM) eM (hN _ _ hInv).2 (by decide) rfl rfl (by decide) hkL_38 ⟨rfl, rfl⟩ hdL_X8_glad ⟨Nat.le_of_ble_eq_true rfl, Nat.le_of_ble_eq_true rfl⟩ hcs hIM (fun q h => Nat.le_trans (by omega) h.1) (fun q h => h) hS hl.1 rfl rfl (Nat.le_of_ble_eq_true rfl) dL_law_392 (fun H1 locs1 hq1 hspM1 hS => ?_)
  have hspX1 := zI_stay hspX1 (fun q h1 h2 => by have h3 : bM ≤ q := h2.1; have h4 : q < bX + 59 := h1.2; omega) hq1
  refine lv_icmp_eq (tgt := 1247) hx hb dL_law_395 (by decide) (fun _ => ?_) (fun h => absurd rfl h)
  exact hgo H1 locs1 X1 M1 hI1 hspX1 hspM1 hS
set_option maxRecDepth 100000 in
set_option maxHeartbeats 4000000 in
theorem law_feed {p : Program} {e : Env} {s : State} {m : MethodId} {below : List Frame} {meth : Method} {c : Code} (l : Launch) {b L : Nat} {xs : Nat → Int32} (hx : p.tables.exec = Jvm.exec) (hb : c.code = code) (hr : meth.sig.returnType = ret) (hml : c.maxLocals = 4) (hown : s.vm.findClass RL = some m.cls) (hts : ∀ w ∈ wsL_law, w.before #[Value.ref b] s = true) (hX : va_X b L xs s s.heap) (hbl : b < s.heap.size) (hlocks : meth.locks = false) (hL : L ≤ 3072) {Z : zZ} {bX bM : Nat} (hbX : s.heap.size ≤ bX) (hbM : bM = bX + 59) (hKv : va_K Z.1 vwCl (zT Z.2.1) s) (hB : zB Z.2.2 bX s) {Inv : zS → zS → Prop} (hN : ∀ X M, Inv X M → X.1 = 59 ∧ M.1 = 16) (hT : ∀ (a0 : Int32), TM2 Inv (fun st => fX7_feed 0 a0 st) (fun st => fX8_feed 0 a0 st)) {cells slots : Nat} (hcs : cells ≤ room_1.cells ∧ slots ≤ room_1.slots) {k : Nat} {ix : Int32} (hix : ix = nI k) (hk6 : k + 6 ≤ L) {stX stM : zS} (hInv : Inv stX stM) {H : Heap} {locs : List Loc} {ls : Array Slot} (hIX : zI Z spX bX none (zA bX 59) stX H) (hIM : zI Z spM bM none (zA bM 16) stM H) (hS : va_S (fun q => s.heap.size ≤ q) s.heap H locs) (hl : lv_has ls 4 [(0, .ref b), (1, .ref bX), (2, .ref bM), (3, .int ix)]) (hgo : ∀ (H1 : Heap) (locs1 : List Loc) (X1 M1 : zS), Inv X1 M1 → zI Z spX bX none (zA bX 59) X1 H1 → zI Z spM bM none (zA bM 16) M1 H1 → va_S (fun q => s.heap.size ≤ q) s.heap H1 locs1 → W p l e room_1 s m #[Value.ref b] below meth c H1 locs1 cells slots (lw_Z below #[Value.ref b] s) (F0 m 1247 ls [])) : W p l e room_1 s m #[Value.ref b] below meth c H locs cells slots (lw_Z below #[Value.ref b] s) (F0 m 400 ls []) := by
  have hbA : ¬ s.heap.size ≤ b := Nat.not_le.mpr hbl
  obtain ⟨r, X1, M1, eX, eM, hI1⟩ := hT (xs (ix + 1).toNatClampNeg) stX stM hInv
  refine lv_aload_n hx hb dL_law_400 rfl (lv_at hl 1 rfl) ?_
  refine lv_aload_n hx hb dL_law_401 rfl (lv_at hl 0 rfl) ?_
  refine lv_iload_n hx hb dL_law_402 rfl (lv_at hl 3 rfl) ?_
  refine lv_iconst (v := 1) hx hb dL_law_403 (by decide) ?_
  refine lv_iadd hx hb dL_law_404 ?_
  refine va_sld hx hb hX hbl hbA hS (lw_in hL hk6 (j := 1) (by decide) hix rfl rfl) dL_law_405 ?_
  refine lw_call (sp := spX) (b := bX) (n1 := 59) (A := fun q => s.heap.size ≤ q) (As := [vI (xs (ix + 1).toNatClampNeg)]) (rest := []) (ci := 7) ⟨hx, hb, hml, hown, hts⟩ hKv hB (kX7_feed l Z bX none 0 _ stX) eX (hN _ _ hInv).1 (by decide) rfl rfl (by decide) hkL_39 ⟨rfl, rfl⟩ hdL_X7_feed ⟨Nat.le_of_ble_eq_true rfl, Nat.le_of_ble_eq_true rfl⟩ hcs hIX (fun q h => Nat.le_trans (by omega) h.1) (fun q h => h) hS hl.1 rfl rfl (Nat.le_of_ble_eq_true rfl) dL_law_406 (fun H1 locs1 hq0 hspX1 hS => ?_)
  have hIM := zI_stay hIM (fun q h1 h2 => by have h3 : bM ≤ q := h1.1; have h4 : q < bX + 59 := h2.2; omega) hq0
  refine lv_aload_n hx hb dL_law_409 rfl (lv_at hl 2 rfl) ?_
  refine lv_aload_n hx hb dL_law_410 rfl (lv_at hl 0 rfl) ?_
  refine lv_iload_n hx hb dL_law_411 rfl (lv_at hl 3 rfl) ?_
  refine lv_iconst (v := 1) hx hb dL_law_412 (by decide) ?_
  refine lv_iadd hx hb dL_law_413 ?_
  refine va_sld hx hb hX hbl hbA hS (lw_in hL hk6 (j := 1) (by decide) hix rfl rfl) dL_law_414 ?_
  refine lw_call (sp := spM) (b := bM) (n1 := 16) (A := fun q => s.heap.size ≤ q) (As := [vI (xs (ix + 1).toNatClampNeg)]) (rest := [zval 0 (vI r)]) (ci := 8) ⟨hx, hb, hml, hown, hts⟩ hKv (zB_mono hB (by omega)) (kX8_feed l Z bM none 0 _ stM) eM (hN _ _ hInv).2 (by decide) rfl rfl (by decide) hkL_43 ⟨rfl, rfl⟩ hdL_X8_feed ⟨Nat.le_of_ble_eq_true rfl, Nat.le_of_ble_eq_true rfl⟩ hcs hIM (fun q h => Nat.le_trans (by omega) h.1) (fun q h => h) hS hl.1 rfl rfl (Nat.le_of_ble_eq_true rfl) dL_law_415 (fun H1 locs1 hq1 hspM1 hS => ?_)
  have hspX1 := zI_stay hspX1 (fun q h1 h2 => by have h3 : bM ≤ q := h2.1; have h4 : q < bX + 59 := h1.2; omega) hq1
  refine lv_icmp_eq (tgt := 1247) hx hb dL_law_418 (by decide) (fun _ => ?_) (fun h => absurd rfl h)
  exact hgo H1 locs1 X1 M1 hI1 hspX1 hspM1 hS
set_option maxRecDepth 100000 in
set_option maxHeartbeats 4000000 in
theorem law_text {p : Program} {e : Env} {s : State} {m : MethodId} {below : List Frame} {meth : Method} {c : Code} (l : Launch) {b L : Nat} {xs : Nat → Int32} (hx : p.tables.exec = Jvm.exec) (hb : c.code = code) (hr : meth.sig.returnType = ret) (hml : c.maxLocals = 4) (hown : s.vm.findClass RL = some m.cls) (hts : ∀ w ∈ wsL_law, w.before #[Value.ref b] s = true) (hX : va_X b L xs s s.heap) (hbl : b < s.heap.size) (hlocks : meth.locks = false) (hL : L ≤ 3072) {Z : zZ} {bX bM : Nat} (hbX : s.heap.size ≤ bX) (hbM : bM = bX + 59) (hKv : va_K Z.1 vwCl (zT Z.2.1) s) (hB : zB Z.2.2 bX s) {Inv : zS → zS → Prop} (hN : ∀ X M, Inv X M → X.1 = 59 ∧ M.1 = 16) (hT : TM2 Inv (fun st => fX7_text 0 st) (fun st => fX8_text 0 st)) {cells slots : Nat} (hcs : cells ≤ room_1.cells ∧ slots ≤ room_1.slots) {k : Nat} {ix : Int32} (hix : ix = nI k) (hk6 : k + 6 ≤ L) {stX stM : zS} (hInv : Inv stX stM) {H : Heap} {locs : List Loc} {ls : Array Slot} (hIX : zI Z spX bX none (zA bX 59) stX H) (hIM : zI Z spM bM none (zA bM 16) stM H) (hS : va_S (fun q => s.heap.size ≤ q) s.heap H locs) (hl : lv_has ls 4 [(0, .ref b), (1, .ref bX), (2, .ref bM), (3, .int ix)]) (hgo : ∀ (H1 : Heap) (locs1 : List Loc) (X1 M1 : zS), Inv X1 M1 → zI Z spX bX none (zA bX 59) X1 H1 → zI Z spM bM none (zA bM 16) M1 H1 → va_S (fun q => s.heap.size ≤ q) s.heap H1 locs1 → W p l e room_1 s m #[Value.ref b] below meth c H1 locs1 cells slots (lw_Z below #[Value.ref b] s) (F0 m 1247 ls [])) : W p l e room_1 s m #[Value.ref b] below meth c H locs cells slots (lw_Z below #[Value.ref b] s) (F0 m 423 ls []) := by
  have hbA : ¬ s.heap.size ≤ b := Nat.not_le.mpr hbl
  obtain ⟨r, X1, M1, eX, eM, hI1⟩ := hT stX stM hInv
  refine lv_aload_n hx hb dL_law_423 rfl (lv_at hl 1 rfl) ?_
  refine lw_call (sp := spX) (b := bX) (n1 := 59) (A := fun q => s.heap.size ≤ q) (As := []) (rest := []) (ci := 7) ⟨hx, hb, hml, hown, hts⟩ hKv hB (kX7_text l Z bX none 0 stX) eX (hN _ _ hInv).1 (by decide) rfl rfl (by decide) hkL_44 ⟨rfl, rfl⟩ hdL_X7_text ⟨Nat.le_of_ble_eq_true rfl, Nat.le_of_ble_eq_true rfl⟩ hcs hIX (fun q h => Nat.le_trans (by omega) h.1) (fun q h => h) hS hl.1 rfl rfl (Nat.le_of_ble_eq_true rfl) dL_law_424 (fun H1 locs1 hq0 hspX1 hS => ?_)
  have hIM := zI_stay hIM (fun q h1 h2 => by have h3 : bM ≤ q := h1.1; have h4 : q < bX + 59 := h2.2; omega) hq0
  refine lv_aload_n hx hb dL_law_427 rfl (lv_at hl 2 rfl) ?_
  refine lw_call (sp := spM) (b := bM) (n1 := 16) (A := fun q => s.heap.size ≤ q) (As := []) (rest := [zval 0 (vI r)]) (ci := 8) ⟨hx, hb, hml, hown, hts⟩ hKv (zB_mono hB (by omega)) (kX8_text l Z bM none 0 stM) eM (hN _ _ hInv).2 (by decide) rfl rfl (by decide) hkL_48 ⟨rfl, rfl⟩ hdL_X8_text ⟨Nat.le_of_ble_eq_true rfl, Nat.le_of_ble_eq_true rfl⟩ hcs hIM (fun q h => Nat.le_trans (by omega) h.1) (fun q h => h) hS hl.1 rfl rfl (Nat.le_of_ble_eq_true rfl) dL_law_428 (fun H1 locs1 hq1 hspM1 hS => ?_)
  have hspX1 := zI_stay hspX1 (fun q h1 h2 => by have h3 : bM ≤ q := h2.1; have h4 : q < bX + 59 := h1.2; omega) hq1
  refine lv_icmp_eq (tgt := 1247) hx hb dL_law_431 (by decide) (fun _ => ?_) (fun h => absurd rfl h)
  exact hgo H1 locs1 X1 M1 hI1 hspX1 hspM1 hS
set_option maxRecDepth 100000 in
set_option maxHeartbeats 4000000 in
theorem law_force {p : Program} {e : Env} {s : State} {m : MethodId} {below : List Frame} {meth : Method} {c : Code} (l : Launch) {b L : Nat} {xs : Nat → Int32} (hx : p.tables.exec = Jvm.exec) (hb : c.code = code) (hr : meth.sig.returnType = ret) (hml : c.maxLocals = 4) (hown : s.vm.findClass RL = some m.cls) (hts : ∀ w ∈ wsL_law, w.before #[Value.ref b] s = true) (hX : va_X b L xs s s.heap) (hbl : b < s.heap.size) (hlocks : meth.locks = false) (hL : L ≤ 3072) {Z : zZ} {bX bM : Nat} (hbX : s.heap.size ≤ bX) (hbM : bM = bX + 59) (hKv : va_K Z.1 vwCl (zT Z.2.1) s) (hB : zB Z.2.2 bX s) {Inv : zS → zS → Prop} (hN : ∀ X M, Inv X M → X.1 = 59 ∧ M.1 = 16) (hT : ∀ (a0 : Int32), TM2 Inv (fun st => fX7_force 0 a0 st) (fun st => fX8_force 0 a0 st)) {cells slots : Nat} (hcs : cells ≤ room_1.cells ∧ slots ≤ room_1.slots) {k : Nat} {ix : Int32} (hix : ix = nI k) (hk6 : k + 6 ≤ L) {stX stM : zS} (hInv : Inv stX stM) {H : Heap} {locs : List Loc} {ls : Array Slot} (hIX : zI Z spX bX none (zA bX 59) stX H) (hIM : zI Z spM bM none (zA bM 16) stM H) (hS : va_S (fun q => s.heap.size ≤ q) s.heap H locs) (hl : lv_has ls 4 [(0, .ref b), (1, .ref bX), (2, .ref bM), (3, .int ix)]) (hgo : ∀ (H1 : Heap) (locs1 : List Loc) (X1 M1 : zS), Inv X1 M1 → zI Z spX bX none (zA bX 59) X1 H1 → zI Z spM bM none (zA bM 16) M1 H1 → va_S (fun q => s.heap.size ≤ q) s.heap H1 locs1 → W p l e room_1 s m #[Value.ref b] below meth c H1 locs1 cells slots (lw_Z below #[Value.ref b] s) (F0 m 1247 ls [])) : W p l e room_1 s m #[Value.ref b] below meth c H locs cells slots (lw_Z below #[Value.ref b] s) (F0 m 436 ls []) := by
  have hbA : ¬ s.heap.size ≤ b := Nat.not_le.mpr hbl
  obtain ⟨r, X1, M1, eX, eM, hI1⟩ := hT (xs (ix + 1).toNatClampNeg) stX stM hInv
  refine lv_aload_n hx hb dL_law_436 rfl (lv_at hl 1 rfl) ?_
  refine lv_aload_n hx hb dL_law_437 rfl (lv_at hl 0 rfl) ?_
  refine lv_iload_n hx hb dL_law_438 rfl (lv_at hl 3 rfl) ?_
  refine lv_iconst (v := 1) hx hb dL_law_439 (by decide) ?_
  refine lv_iadd hx hb dL_law_440 ?_
  refine va_sld hx hb hX hbl hbA hS (lw_in hL hk6 (j := 1) (by decide) hix rfl rfl) dL_law_441 ?_
  refine lw_call (sp := spX) (b := bX) (n1 := 59) (A := fun q => s.heap.size ≤ q) (As := [vI (xs (ix + 1).toNatClampNeg)]) (rest := []) (ci := 7) ⟨hx, hb, hml, hown, hts⟩ hKv hB (kX7_force l Z bX none 0 _ stX) eX (hN _ _ hInv).1 (by decide) rfl rfl (by decide) hkL_49 ⟨rfl, rfl⟩ hdL_X7_force ⟨Nat.le_of_ble_eq_true rfl, Nat.le_of_ble_eq_true rfl⟩ hcs hIX (fun q h => Nat.le_trans (by omega) h.1) (fun q h => h) hS hl.1 rfl rfl (Nat.le_of_ble_eq_true rfl) dL_law_442 (fun H1 locs1 hq0 hspX1 hS => ?_)
  have hIM := zI_stay hIM (fun q h1 h2 => by have h3 : bM ≤ q := h1.1; have h4 : q < bX + 59 := h2.2; omega) hq0
  refine lv_aload_n hx hb dL_law_445 rfl (lv_at hl 2 rfl) ?_
  refine lv_aload_n hx hb dL_law_446 rfl (lv_at hl 0 rfl) ?_
  refine lv_iload_n hx hb dL_law_447 rfl (lv_at hl 3 rfl) ?_
  refine lv_iconst (v := 1) hx hb dL_law_448 (by decide) ?_
  refine lv_iadd hx hb dL_law_449 ?_
  refine va_sld hx hb hX hbl hbA hS (lw_in hL hk6 (j := 1) (by decide) hix rfl rfl) dL_law_450 ?_
  refine lw_call (sp := spM) (b := bM) (n1 := 16) (A := fun q => s.heap.size ≤ q) (As := [vI (xs (ix + 1).toNatClampNeg)]) (rest := [zval 0 (vI r)]) (ci := 8) ⟨hx, hb, hml, hown, hts⟩ hKv (zB_mono hB (by omega)) (kX8_force l Z bM none 0 _ stM) eM (hN _ _ hInv).2 (by decide) rfl rfl (by decide) hkL_52 ⟨rfl, rfl⟩ hdL_X8_force ⟨Nat.le_of_ble_eq_true rfl, Nat.le_of_ble_eq_true rfl⟩ hcs hIM (fun q h => Nat.le_trans (by omega) h.1) (fun q h => h) hS hl.1 rfl rfl (Nat.le_of_ble_eq_true rfl) dL_law_451 (fun H1 locs1 hq1 hspM1 hS => ?_)
  have hspX1 := zI_stay hspX1 (fun q h1 h2 => by have h3 : bM ≤ q := h2.1; have h4 : q < bX + 59 := h1.2; omega) hq1
  refine lv_icmp_eq (tgt := 1247) hx hb dL_law_454 (by decide) (fun _ => ?_) (fun h => absurd rfl h)
  exact hgo H1 locs1 X1 M1 hI1 hspX1 hspM1 hS
set_option maxRecDepth 100000 in
set_option maxHeartbeats 4000000 in
theorem law_ask {p : Program} {e : Env} {s : State} {m : MethodId} {below : List Frame} {meth : Method} {c : Code} (l : Launch) {b L : Nat} {xs : Nat → Int32} (hx : p.tables.exec = Jvm.exec) (hb : c.code = code) (hr : meth.sig.returnType = ret) (hml : c.maxLocals = 4) (hown : s.vm.findClass RL = some m.cls) (hts : ∀ w ∈ wsL_law, w.before #[Value.ref b] s = true) (hX : va_X b L xs s s.heap) (hbl : b < s.heap.size) (hlocks : meth.locks = false) (hL : L ≤ 3072) {Z : zZ} {bX bM : Nat} (hbX : s.heap.size ≤ bX) (hbM : bM = bX + 59) (hKv : va_K Z.1 vwCl (zT Z.2.1) s) (hB : zB Z.2.2 bX s) {Inv : zS → zS → Prop} (hN : ∀ X M, Inv X M → X.1 = 59 ∧ M.1 = 16) (hT : ∀ (a0 : Int32) (a1 : Int32), TM2 Inv (fun st => fX7_ask 0 a0 a1 st) (fun st => fX8_ask 0 a0 a1 st)) {cells slots : Nat} (hcs : cells ≤ room_1.cells ∧ slots ≤ room_1.slots) {k : Nat} {ix : Int32} (hix : ix = nI k) (hk6 : k + 6 ≤ L) {stX stM : zS} (hInv : Inv stX stM) {H : Heap} {locs : List Loc} {ls : Array Slot} (hIX : zI Z spX bX none (zA bX 59) stX H) (hIM : zI Z spM bM none (zA bM 16) stM H) (hS : va_S (fun q => s.heap.size ≤ q) s.heap H locs) (hl : lv_has ls 4 [(0, .ref b), (1, .ref bX), (2, .ref bM), (3, .int ix)]) (hgo : ∀ (H1 : Heap) (locs1 : List Loc) (X1 M1 : zS), Inv X1 M1 → zI Z spX bX none (zA bX 59) X1 H1 → zI Z spM bM none (zA bM 16) M1 H1 → va_S (fun q => s.heap.size ≤ q) s.heap H1 locs1 → W p l e room_1 s m #[Value.ref b] below meth c H1 locs1 cells slots (lw_Z below #[Value.ref b] s) (F0 m 1247 ls [])) : W p l e room_1 s m #[Value.ref b] below meth c H locs cells slots (lw_Z below #[Value.ref b] s) (F0 m 459 ls []) := by
  have hbA : ¬ s.heap.size ≤ b := Nat.not_le.mpr hbl
  obtain ⟨r, X1, M1, eX, eM, hI1⟩ := hT (xs (ix + 1).toNatClampNeg) (xs (ix + 2).toNatClampNeg) stX stM hInv
  refine lv_aload_n hx hb dL_law_459 rfl (lv_at hl 1 rfl) ?_
  refine lv_aload_n hx hb dL_law_460 rfl (lv_at hl 0 rfl) ?_
  refine lv_iload_n hx hb dL_law_461 rfl (lv_at hl 3 rfl) ?_
  refine lv_iconst (v := 1) hx hb dL_law_462 (by decide) ?_
  refine lv_iadd hx hb dL_law_463 ?_
  refine va_sld hx hb hX hbl hbA hS (lw_in hL hk6 (j := 1) (by decide) hix rfl rfl) dL_law_464 ?_
  refine lv_aload_n hx hb dL_law_465 rfl (lv_at hl 0 rfl) ?_
  refine lv_iload_n hx hb dL_law_466 rfl (lv_at hl 3 rfl) ?_
  refine lv_iconst (v := 2) hx hb dL_law_467 (by decide) ?_
  refine lv_iadd hx hb dL_law_468 ?_
  refine va_sld hx hb hX hbl hbA hS (lw_in hL hk6 (j := 2) (by decide) hix rfl rfl) dL_law_469 ?_
  refine lw_call (sp := spX) (b := bX) (n1 := 59) (A := fun q => s.heap.size ≤ q) (As := [vI (xs (ix + 1).toNatClampNeg), vI (xs (ix + 2).toNatClampNeg)]) (rest := []) (ci := 7) ⟨hx, hb, hml, hown, hts⟩ hKv hB (kX7_ask l Z bX none 0 _ _ stX) eX (hN _ _ hInv).1 (by decide) rfl rfl (by decide) hkL_53 ⟨rfl, rfl⟩ hdL_X7_ask ⟨Nat.le_of_ble_eq_true rfl, Nat.le_of_ble_eq_true rfl⟩ hcs hIX (fun q h => Nat.le_trans (by omega) h.1) (fun q h => h) hS hl.1 rfl rfl (Nat.le_of_ble_eq_true rfl) dL_law_470 (fun H1 locs1 hq0 hspX1 hS => ?_)
  have hIM := zI_stay hIM (fun q h1 h2 => by have h3 : bM ≤ q := h1.1; have h4 : q < bX + 59 := h2.2; omega) hq0
  refine lv_aload_n hx hb dL_law_473 rfl (lv_at hl 2 rfl) ?_
  refine lv_aload_n hx hb dL_law_474 rfl (lv_at hl 0 rfl) ?_
  refine lv_iload_n hx hb dL_law_475 rfl (lv_at hl 3 rfl) ?_
  refine lv_iconst (v := 1) hx hb dL_law_476 (by decide) ?_
  refine lv_iadd hx hb dL_law_477 ?_
  refine va_sld hx hb hX hbl hbA hS (lw_in hL hk6 (j := 1) (by decide) hix rfl rfl) dL_law_478 ?_
  refine lv_aload_n hx hb dL_law_479 rfl (lv_at hl 0 rfl) ?_
  refine lv_iload_n hx hb dL_law_480 rfl (lv_at hl 3 rfl) ?_
  refine lv_iconst (v := 2) hx hb dL_law_481 (by decide) ?_
  refine lv_iadd hx hb dL_law_482 ?_
  refine va_sld hx hb hX hbl hbA hS (lw_in hL hk6 (j := 2) (by decide) hix rfl rfl) dL_law_483 ?_
  refine lw_call (sp := spM) (b := bM) (n1 := 16) (A := fun q => s.heap.size ≤ q) (As := [vI (xs (ix + 1).toNatClampNeg), vI (xs (ix + 2).toNatClampNeg)]) (rest := [zval 0 (vI r)]) (ci := 8) ⟨hx, hb, hml, hown, hts⟩ hKv (zB_mono hB (by omega)) (kX8_ask l Z bM none 0 _ _ stM) eM (hN _ _ hInv).2 (by decide) rfl rfl (by decide) hkL_56 ⟨rfl, rfl⟩ hdL_X8_ask ⟨Nat.le_of_ble_eq_true rfl, Nat.le_of_ble_eq_true rfl⟩ hcs hIM (fun q h => Nat.le_trans (by omega) h.1) (fun q h => h) hS hl.1 rfl rfl (Nat.le_of_ble_eq_true rfl) dL_law_484 (fun H1 locs1 hq1 hspM1 hS => ?_)
  have hspX1 := zI_stay hspX1 (fun q h1 h2 => by have h3 : bM ≤ q := h2.1; have h4 : q < bX + 59 := h1.2; omega) hq1
  refine lv_icmp_eq (tgt := 1247) hx hb dL_law_487 (by decide) (fun _ => ?_) (fun h => absurd rfl h)
  exact hgo H1 locs1 X1 M1 hI1 hspX1 hspM1 hS
set_option maxRecDepth 100000 in
set_option maxHeartbeats 4000000 in
theorem law_day {p : Program} {e : Env} {s : State} {m : MethodId} {below : List Frame} {meth : Method} {c : Code} (l : Launch) {b L : Nat} {xs : Nat → Int32} (hx : p.tables.exec = Jvm.exec) (hb : c.code = code) (hr : meth.sig.returnType = ret) (hml : c.maxLocals = 4) (hown : s.vm.findClass RL = some m.cls) (hts : ∀ w ∈ wsL_law, w.before #[Value.ref b] s = true) (hX : va_X b L xs s s.heap) (hbl : b < s.heap.size) (hlocks : meth.locks = false) (hL : L ≤ 3072) {Z : zZ} {bX bM : Nat} (hbX : s.heap.size ≤ bX) (hbM : bM = bX + 59) (hKv : va_K Z.1 vwCl (zT Z.2.1) s) (hB : zB Z.2.2 bX s) {Inv : zS → zS → Prop} (hN : ∀ X M, Inv X M → X.1 = 59 ∧ M.1 = 16) (hT : TM2 Inv (fun st => fX7_day 0 st) (fun st => fX8_day 0 st)) {cells slots : Nat} (hcs : cells ≤ room_1.cells ∧ slots ≤ room_1.slots) {k : Nat} {ix : Int32} (hix : ix = nI k) (hk6 : k + 6 ≤ L) {stX stM : zS} (hInv : Inv stX stM) {H : Heap} {locs : List Loc} {ls : Array Slot} (hIX : zI Z spX bX none (zA bX 59) stX H) (hIM : zI Z spM bM none (zA bM 16) stM H) (hS : va_S (fun q => s.heap.size ≤ q) s.heap H locs) (hl : lv_has ls 4 [(0, .ref b), (1, .ref bX), (2, .ref bM), (3, .int ix)]) (hgo : ∀ (H1 : Heap) (locs1 : List Loc) (X1 M1 : zS), Inv X1 M1 → zI Z spX bX none (zA bX 59) X1 H1 → zI Z spM bM none (zA bM 16) M1 H1 → va_S (fun q => s.heap.size ≤ q) s.heap H1 locs1 → W p l e room_1 s m #[Value.ref b] below meth c H1 locs1 cells slots (lw_Z below #[Value.ref b] s) (F0 m 1247 ls [])) : W p l e room_1 s m #[Value.ref b] below meth c H locs cells slots (lw_Z below #[Value.ref b] s) (F0 m 492 ls []) := by
  have hbA : ¬ s.heap.size ≤ b := Nat.not_le.mpr hbl
  obtain ⟨r, X1, M1, eX, eM, hI1⟩ := hT stX stM hInv
  refine lv_aload_n hx hb dL_law_492 rfl (lv_at hl 1 rfl) ?_
  refine lw_call (sp := spX) (b := bX) (n1 := 59) (A := fun q => s.heap.size ≤ q) (As := []) (rest := []) (ci := 7) ⟨hx, hb, hml, hown, hts⟩ hKv hB (kX7_day l Z bX none 0 stX) eX (hN _ _ hInv).1 (by decide) rfl rfl (by decide) hkL_57 ⟨rfl, rfl⟩ hdL_X7_day ⟨Nat.le_of_ble_eq_true rfl, Nat.le_of_ble_eq_true rfl⟩ hcs hIX (fun q h => Nat.le_trans (by omega) h.1) (fun q h => h) hS hl.1 rfl rfl (Nat.le_of_ble_eq_true rfl) dL_law_493 (fun H1 locs1 hq0 hspX1 hS => ?_)
  have hIM := zI_stay hIM (fun q h1 h2 => by have h3 : bM ≤ q := h1.1; have h4 : q < bX + 59 := h2.2; omega) hq0
  refine lv_aload_n hx hb dL_law_496 rfl (lv_at hl 2 rfl) ?_
  refine lw_call (sp := spM) (b := bM) (n1 := 16) (A := fun q => s.heap.size ≤ q) (As := []) (rest := [zval 0 (vI r)]) (ci := 8) ⟨hx, hb, hml, hown, hts⟩ hKv (zB_mono hB (by omega)) (kX8_day l Z bM none 0 stM) eM (hN _ _ hInv).2 (by decide) rfl rfl (by decide) hkL_60 ⟨rfl, rfl⟩ hdL_X8_day ⟨Nat.le_of_ble_eq_true rfl, Nat.le_of_ble_eq_true rfl⟩ hcs hIM (fun q h => Nat.le_trans (by omega) h.1) (fun q h => h) hS hl.1 rfl rfl (Nat.le_of_ble_eq_true rfl) dL_law_497 (fun H1 locs1 hq1 hspM1 hS => ?_)
  have hspX1 := zI_stay hspX1 (fun q h1 h2 => by have h3 : bM ≤ q := h2.1; have h4 : q < bX + 59 := h1.2; omega) hq1
  refine lv_icmp_eq (tgt := 1247) hx hb dL_law_500 (by decide) (fun _ => ?_) (fun h => absurd rfl h)
  exact hgo H1 locs1 X1 M1 hI1 hspX1 hspM1 hS
set_option maxRecDepth 100000 in
set_option maxHeartbeats 4000000 in
theorem law_row {p : Program} {e : Env} {s : State} {m : MethodId} {below : List Frame} {meth : Method} {c : Code} (l : Launch) {b L : Nat} {xs : Nat → Int32} (hx : p.tables.exec = Jvm.exec) (hb : c.code = code) (hr : meth.sig.returnType = ret) (hml : c.maxLocals = 4) (hown : s.vm.findClass RL = some m.cls) (hts : ∀ w ∈ wsL_law, w.before #[Value.ref b] s = true) (hX : va_X b L xs s s.heap) (hbl : b < s.heap.size) (hlocks : meth.locks = false) (hL : L ≤ 3072) {Z : zZ} {bX bM : Nat} (hbX : s.heap.size ≤ bX) (hbM : bM = bX + 59) (hKv : va_K Z.1 vwCl (zT Z.2.1) s) (hB : zB Z.2.2 bX s) {Inv : zS → zS → Prop} (hN : ∀ X M, Inv X M → X.1 = 59 ∧ M.1 = 16) (hT : ∀ (a0 : Int32) (a1 : Int32) (a2 : Int32), TM2 Inv (fun st => fX7_row 0 a0 a1 a2 st) (fun st => fX8_row 0 a0 a1 a2 st)) {cells slots : Nat} (hcs : cells ≤ room_1.cells ∧ slots ≤ room_1.slots) {k : Nat} {ix : Int32} (hix : ix = nI k) (hk6 : k + 6 ≤ L) {stX stM : zS} (hInv : Inv stX stM) {H : Heap} {locs : List Loc} {ls : Array Slot} (hIX : zI Z spX bX none (zA bX 59) stX H) (hIM : zI Z spM bM none (zA bM 16) stM H) (hS : va_S (fun q => s.heap.size ≤ q) s.heap H locs) (hl : lv_has ls 4 [(0, .ref b), (1, .ref bX), (2, .ref bM), (3, .int ix)]) (hgo : ∀ (H1 : Heap) (locs1 : List Loc) (X1 M1 : zS), Inv X1 M1 → zI Z spX bX none (zA bX 59) X1 H1 → zI Z spM bM none (zA bM 16) M1 H1 → va_S (fun q => s.heap.size ≤ q) s.heap H1 locs1 → W p l e room_1 s m #[Value.ref b] below meth c H1 locs1 cells slots (lw_Z below #[Value.ref b] s) (F0 m 1247 ls [])) : W p l e room_1 s m #[Value.ref b] below meth c H locs cells slots (lw_Z below #[Value.ref b] s) (F0 m 505 ls []) := by
  have hbA : ¬ s.heap.size ≤ b := Nat.not_le.mpr hbl
  obtain ⟨r, X1, M1, eX, eM, hI1⟩ := hT (xs (ix + 1).toNatClampNeg) (xs (ix + 2).toNatClampNeg) (xs (ix + 3).toNatClampNeg) stX stM hInv
  refine lv_aload_n hx hb dL_law_505 rfl (lv_at hl 1 rfl) ?_
  refine lv_aload_n hx hb dL_law_506 rfl (lv_at hl 0 rfl) ?_
  refine lv_iload_n hx hb dL_law_507 rfl (lv_at hl 3 rfl) ?_
  refine lv_iconst (v := 1) hx hb dL_law_508 (by decide) ?_
  refine lv_iadd hx hb dL_law_509 ?_
  refine va_sld hx hb hX hbl hbA hS (lw_in hL hk6 (j := 1) (by decide) hix rfl rfl) dL_law_510 ?_
  refine lv_aload_n hx hb dL_law_511 rfl (lv_at hl 0 rfl) ?_
  refine lv_iload_n hx hb dL_law_512 rfl (lv_at hl 3 rfl) ?_
  refine lv_iconst (v := 2) hx hb dL_law_513 (by decide) ?_
  refine lv_iadd hx hb dL_law_514 ?_
  refine va_sld hx hb hX hbl hbA hS (lw_in hL hk6 (j := 2) (by decide) hix rfl rfl) dL_law_515 ?_
  refine lv_aload_n hx hb dL_law_516 rfl (lv_at hl 0 rfl) ?_
  refine lv_iload_n hx hb dL_law_517 rfl (lv_at hl 3 rfl) ?_
  refine lv_iconst (v := 3) hx hb dL_law_518 (by decide) ?_
  refine lv_iadd hx hb dL_law_519 ?_
  refine va_sld hx hb hX hbl hbA hS (lw_in hL hk6 (j := 3) (by decide) hix rfl rfl) dL_law_520 ?_
  refine lw_call (sp := spX) (b := bX) (n1 := 59) (A := fun q => s.heap.size ≤ q) (As := [vI (xs (ix + 1).toNatClampNeg), vI (xs (ix + 2).toNatClampNeg), vI (xs (ix + 3).toNatClampNeg)]) (rest := []) (ci := 7) ⟨hx, hb, hml, hown, hts⟩ hKv hB (kX7_row l Z bX none 0 _ _ _ stX) eX (hN _ _ hInv).1 (by decide) rfl rfl (by decide) hkL_61 ⟨rfl, rfl⟩ hdL_X7_row ⟨Nat.le_of_ble_eq_true rfl, Nat.le_of_ble_eq_true rfl⟩ hcs hIX (fun q h => Nat.le_trans (by omega) h.1) (fun q h => h) hS hl.1 rfl rfl (Nat.le_of_ble_eq_true rfl) dL_law_521 (fun H1 locs1 hq0 hspX1 hS => ?_)
  have hIM := zI_stay hIM (fun q h1 h2 => by have h3 : bM ≤ q := h1.1; have h4 : q < bX + 59 := h2.2; omega) hq0
  refine lv_aload_n hx hb dL_law_524 rfl (lv_at hl 2 rfl) ?_
  refine lv_aload_n hx hb dL_law_525 rfl (lv_at hl 0 rfl) ?_
  refine lv_iload_n hx hb dL_law_526 rfl (lv_at hl 3 rfl) ?_
  refine lv_iconst (v := 1) hx hb dL_law_527 (by decide) ?_
  refine lv_iadd hx hb dL_law_528 ?_
  refine va_sld hx hb hX hbl hbA hS (lw_in hL hk6 (j := 1) (by decide) hix rfl rfl) dL_law_529 ?_
  refine lv_aload_n hx hb dL_law_530 rfl (lv_at hl 0 rfl) ?_
  refine lv_iload_n hx hb dL_law_531 rfl (lv_at hl 3 rfl) ?_
  refine lv_iconst (v := 2) hx hb dL_law_532 (by decide) ?_
  refine lv_iadd hx hb dL_law_533 ?_
  refine va_sld hx hb hX hbl hbA hS (lw_in hL hk6 (j := 2) (by decide) hix rfl rfl) dL_law_534 ?_
  refine lv_aload_n hx hb dL_law_535 rfl (lv_at hl 0 rfl) ?_
  refine lv_iload_n hx hb dL_law_536 rfl (lv_at hl 3 rfl) ?_
  refine lv_iconst (v := 3) hx hb dL_law_537 (by decide) ?_
  refine lv_iadd hx hb dL_law_538 ?_
  refine va_sld hx hb hX hbl hbA hS (lw_in hL hk6 (j := 3) (by decide) hix rfl rfl) dL_law_539 ?_
  refine lw_call (sp := spM) (b := bM) (n1 := 16) (A := fun q => s.heap.size ≤ q) (As := [vI (xs (ix + 1).toNatClampNeg), vI (xs (ix + 2).toNatClampNeg), vI (xs (ix + 3).toNatClampNeg)]) (rest := [zval 0 (vI r)]) (ci := 8) ⟨hx, hb, hml, hown, hts⟩ hKv (zB_mono hB (by omega)) (kX8_row l Z bM none 0 _ _ _ stM) eM (hN _ _ hInv).2 (by decide) rfl rfl (by decide) hkL_64 ⟨rfl, rfl⟩ hdL_X8_row ⟨Nat.le_of_ble_eq_true rfl, Nat.le_of_ble_eq_true rfl⟩ hcs hIM (fun q h => Nat.le_trans (by omega) h.1) (fun q h => h) hS hl.1 rfl rfl (Nat.le_of_ble_eq_true rfl) dL_law_540 (fun H1 locs1 hq1 hspM1 hS => ?_)
  have hspX1 := zI_stay hspX1 (fun q h1 h2 => by have h3 : bM ≤ q := h2.1; have h4 : q < bX + 59 := h1.2; omega) hq1
  refine lv_icmp_eq (tgt := 1247) hx hb dL_law_543 (by decide) (fun _ => ?_) (fun h => absurd rfl h)
  exact hgo H1 locs1 X1 M1 hI1 hspX1 hspM1 hS
set_option maxRecDepth 100000 in
set_option maxHeartbeats 4000000 in
theorem law_rows {p : Program} {e : Env} {s : State} {m : MethodId} {below : List Frame} {meth : Method} {c : Code} (l : Launch) {b L : Nat} {xs : Nat → Int32} (hx : p.tables.exec = Jvm.exec) (hb : c.code = code) (hr : meth.sig.returnType = ret) (hml : c.maxLocals = 4) (hown : s.vm.findClass RL = some m.cls) (hts : ∀ w ∈ wsL_law, w.before #[Value.ref b] s = true) (hX : va_X b L xs s s.heap) (hbl : b < s.heap.size) (hlocks : meth.locks = false) (hL : L ≤ 3072) {Z : zZ} {bX bM : Nat} (hbX : s.heap.size ≤ bX) (hbM : bM = bX + 59) (hKv : va_K Z.1 vwCl (zT Z.2.1) s) (hB : zB Z.2.2 bX s) {Inv : zS → zS → Prop} (hN : ∀ X M, Inv X M → X.1 = 59 ∧ M.1 = 16) (hT : ∀ (a0 : Int32) (a1 : Int32), TM2 Inv (fun st => fX7_rows 0 a0 a1 st) (fun st => fX8_rows 0 a0 a1 st)) {cells slots : Nat} (hcs : cells ≤ room_1.cells ∧ slots ≤ room_1.slots) {k : Nat} {ix : Int32} (hix : ix = nI k) (hk6 : k + 6 ≤ L) {stX stM : zS} (hInv : Inv stX stM) {H : Heap} {locs : List Loc} {ls : Array Slot} (hIX : zI Z spX bX none (zA bX 59) stX H) (hIM : zI Z spM bM none (zA bM 16) stM H) (hS : va_S (fun q => s.heap.size ≤ q) s.heap H locs) (hl : lv_has ls 4 [(0, .ref b), (1, .ref bX), (2, .ref bM), (3, .int ix)]) (hgo : ∀ (H1 : Heap) (locs1 : List Loc) (X1 M1 : zS), Inv X1 M1 → zI Z spX bX none (zA bX 59) X1 H1 → zI Z spM bM none (zA bM 16) M1 H1 → va_S (fun q => s.heap.size ≤ q) s.heap H1 locs1 → W p l e room_1 s m #[Value.ref b] below meth c H1 locs1 cells slots (lw_Z below #[Value.ref b] s) (F0 m 1247 ls [])) : W p l e room_1 s m #[Value.ref b] below meth c H locs cells slots (lw_Z below #[Value.ref b] s) (F0 m 548 ls []) := by
  have hbA : ¬ s.heap.size ≤ b := Nat.not_le.mpr hbl
  obtain ⟨r, X1, M1, eX, eM, hI1⟩ := hT (xs (ix + 1).toNatClampNeg) (xs (ix + 2).toNatClampNeg) stX stM hInv
  refine lv_aload_n hx hb dL_law_548 rfl (lv_at hl 1 rfl) ?_
  refine lv_aload_n hx hb dL_law_549 rfl (lv_at hl 0 rfl) ?_
  refine lv_iload_n hx hb dL_law_550 rfl (lv_at hl 3 rfl) ?_
  refine lv_iconst (v := 1) hx hb dL_law_551 (by decide) ?_
  refine lv_iadd hx hb dL_law_552 ?_
  refine va_sld hx hb hX hbl hbA hS (lw_in hL hk6 (j := 1) (by decide) hix rfl rfl) dL_law_553 ?_
  refine lv_aload_n hx hb dL_law_554 rfl (lv_at hl 0 rfl) ?_
  refine lv_iload_n hx hb dL_law_555 rfl (lv_at hl 3 rfl) ?_
  refine lv_iconst (v := 2) hx hb dL_law_556 (by decide) ?_
  refine lv_iadd hx hb dL_law_557 ?_
  refine va_sld hx hb hX hbl hbA hS (lw_in hL hk6 (j := 2) (by decide) hix rfl rfl) dL_law_558 ?_
  refine lw_call (sp := spX) (b := bX) (n1 := 59) (A := fun q => s.heap.size ≤ q) (As := [vI (xs (ix + 1).toNatClampNeg), vI (xs (ix + 2).toNatClampNeg)]) (rest := []) (ci := 7) ⟨hx, hb, hml, hown, hts⟩ hKv hB (kX7_rows l Z bX none 0 _ _ stX) eX (hN _ _ hInv).1 (by decide) rfl rfl (by decide) hkL_65 ⟨rfl, rfl⟩ hdL_X7_rows ⟨Nat.le_of_ble_eq_true rfl, Nat.le_of_ble_eq_true rfl⟩ hcs hIX (fun q h => Nat.le_trans (by omega) h.1) (fun q h => h) hS hl.1 rfl rfl (Nat.le_of_ble_eq_true rfl) dL_law_559 (fun H1 locs1 hq0 hspX1 hS => ?_)
  have hIM := zI_stay hIM (fun q h1 h2 => by have h3 : bM ≤ q := h1.1; have h4 : q < bX + 59 := h2.2; omega) hq0
  refine lv_aload_n hx hb dL_law_562 rfl (lv_at hl 2 rfl) ?_
  refine lv_aload_n hx hb dL_law_563 rfl (lv_at hl 0 rfl) ?_
  refine lv_iload_n hx hb dL_law_564 rfl (lv_at hl 3 rfl) ?_
  refine lv_iconst (v := 1) hx hb dL_law_565 (by decide) ?_
  refine lv_iadd hx hb dL_law_566 ?_
  refine va_sld hx hb hX hbl hbA hS (lw_in hL hk6 (j := 1) (by decide) hix rfl rfl) dL_law_567 ?_
  refine lv_aload_n hx hb dL_law_568 rfl (lv_at hl 0 rfl) ?_
  refine lv_iload_n hx hb dL_law_569 rfl (lv_at hl 3 rfl) ?_
  refine lv_iconst (v := 2) hx hb dL_law_570 (by decide) ?_
  refine lv_iadd hx hb dL_law_571 ?_
  refine va_sld hx hb hX hbl hbA hS (lw_in hL hk6 (j := 2) (by decide) hix rfl rfl) dL_law_572 ?_
  refine lw_call (sp := spM) (b := bM) (n1 := 16) (A := fun q => s.heap.size ≤ q) (As := [vI (xs (ix + 1).toNatClampNeg), vI (xs (ix + 2).toNatClampNeg)]) (rest := [zval 0 (vI r)]) (ci := 8) ⟨hx, hb, hml, hown, hts⟩ hKv (zB_mono hB (by omega)) (kX8_rows l Z bM none 0 _ _ stM) eM (hN _ _ hInv).2 (by decide) rfl rfl (by decide) hkL_68 ⟨rfl, rfl⟩ hdL_X8_rows ⟨Nat.le_of_ble_eq_true rfl, Nat.le_of_ble_eq_true rfl⟩ hcs hIM (fun q h => Nat.le_trans (by omega) h.1) (fun q h => h) hS hl.1 rfl rfl (Nat.le_of_ble_eq_true rfl) dL_law_573 (fun H1 locs1 hq1 hspM1 hS => ?_)
  have hspX1 := zI_stay hspX1 (fun q h1 h2 => by have h3 : bM ≤ q := h2.1; have h4 : q < bX + 59 := h1.2; omega) hq1
  refine lv_icmp_eq (tgt := 1247) hx hb dL_law_576 (by decide) (fun _ => ?_) (fun h => absurd rfl h)
  exact hgo H1 locs1 X1 M1 hI1 hspX1 hspM1 hS
set_option maxRecDepth 100000 in
set_option maxHeartbeats 4000000 in
theorem law_leave {p : Program} {e : Env} {s : State} {m : MethodId} {below : List Frame} {meth : Method} {c : Code} (l : Launch) {b L : Nat} {xs : Nat → Int32} (hx : p.tables.exec = Jvm.exec) (hb : c.code = code) (hr : meth.sig.returnType = ret) (hml : c.maxLocals = 4) (hown : s.vm.findClass RL = some m.cls) (hts : ∀ w ∈ wsL_law, w.before #[Value.ref b] s = true) (hX : va_X b L xs s s.heap) (hbl : b < s.heap.size) (hlocks : meth.locks = false) (hL : L ≤ 3072) {Z : zZ} {bX bM : Nat} (hbX : s.heap.size ≤ bX) (hbM : bM = bX + 59) (hKv : va_K Z.1 vwCl (zT Z.2.1) s) (hB : zB Z.2.2 bX s) {Inv : zS → zS → Prop} (hN : ∀ X M, Inv X M → X.1 = 59 ∧ M.1 = 16) (hT : ∀ (a0 : Int32) (a1 : Int32) (a2 : Int32), TM2 Inv (fun st => fX7_leave 0 a0 a1 a2 st) (fun st => fX8_leave 0 a0 a1 a2 st)) {cells slots : Nat} (hcs : cells ≤ room_1.cells ∧ slots ≤ room_1.slots) {k : Nat} {ix : Int32} (hix : ix = nI k) (hk6 : k + 6 ≤ L) {stX stM : zS} (hInv : Inv stX stM) {H : Heap} {locs : List Loc} {ls : Array Slot} (hIX : zI Z spX bX none (zA bX 59) stX H) (hIM : zI Z spM bM none (zA bM 16) stM H) (hS : va_S (fun q => s.heap.size ≤ q) s.heap H locs) (hl : lv_has ls 4 [(0, .ref b), (1, .ref bX), (2, .ref bM), (3, .int ix)]) (hgo : ∀ (H1 : Heap) (locs1 : List Loc) (X1 M1 : zS), Inv X1 M1 → zI Z spX bX none (zA bX 59) X1 H1 → zI Z spM bM none (zA bM 16) M1 H1 → va_S (fun q => s.heap.size ≤ q) s.heap H1 locs1 → W p l e room_1 s m #[Value.ref b] below meth c H1 locs1 cells slots (lw_Z below #[Value.ref b] s) (F0 m 1247 ls [])) : W p l e room_1 s m #[Value.ref b] below meth c H locs cells slots (lw_Z below #[Value.ref b] s) (F0 m 581 ls []) := by
  have hbA : ¬ s.heap.size ≤ b := Nat.not_le.mpr hbl
  obtain ⟨r, X1, M1, eX, eM, hI1⟩ := hT (xs (ix + 1).toNatClampNeg) (xs (ix + 2).toNatClampNeg) (xs (ix + 3).toNatClampNeg) stX stM hInv
  refine lv_aload_n hx hb dL_law_581 rfl (lv_at hl 1 rfl) ?_
  refine lv_aload_n hx hb dL_law_582 rfl (lv_at hl 0 rfl) ?_
  refine lv_iload_n hx hb dL_law_583 rfl (lv_at hl 3 rfl) ?_
  refine lv_iconst (v := 1) hx hb dL_law_584 (by decide) ?_
  refine lv_iadd hx hb dL_law_585 ?_
  refine va_sld hx hb hX hbl hbA hS (lw_in hL hk6 (j := 1) (by decide) hix rfl rfl) dL_law_586 ?_
  refine lv_aload_n hx hb dL_law_587 rfl (lv_at hl 0 rfl) ?_
  refine lv_iload_n hx hb dL_law_588 rfl (lv_at hl 3 rfl) ?_
  refine lv_iconst (v := 2) hx hb dL_law_589 (by decide) ?_
  refine lv_iadd hx hb dL_law_590 ?_
  refine va_sld hx hb hX hbl hbA hS (lw_in hL hk6 (j := 2) (by decide) hix rfl rfl) dL_law_591 ?_
  refine lv_aload_n hx hb dL_law_592 rfl (lv_at hl 0 rfl) ?_
  refine lv_iload_n hx hb dL_law_593 rfl (lv_at hl 3 rfl) ?_
  refine lv_iconst (v := 3) hx hb dL_law_594 (by decide) ?_
  refine lv_iadd hx hb dL_law_595 ?_
  refine va_sld hx hb hX hbl hbA hS (lw_in hL hk6 (j := 3) (by decide) hix rfl rfl) dL_law_596 ?_
  refine lw_call (sp := spX) (b := bX) (n1 := 59) (A := fun q => s.heap.size ≤ q) (As := [vI (xs (ix + 1).toNatClampNeg), vI (xs (ix + 2).toNatClampNeg), vI (xs (ix + 3).toNatClampNeg)]) (rest := []) (ci := 7) ⟨hx, hb, hml, hown, hts⟩ hKv hB (kX7_leave l Z bX none 0 _ _ _ stX) eX (hN _ _ hInv).1 (by decide) rfl rfl (by decide) hkL_69 ⟨rfl, rfl⟩ hdL_X7_leave ⟨Nat.le_of_ble_eq_true rfl, Nat.le_of_ble_eq_true rfl⟩ hcs hIX (fun q h => Nat.le_trans (by omega) h.1) (fun q h => h) hS hl.1 rfl rfl (Nat.le_of_ble_eq_true rfl) dL_law_597 (fun H1 locs1 hq0 hspX1 hS => ?_)
  have hIM := zI_stay hIM (fun q h1 h2 => by have h3 : bM ≤ q := h1.1; have h4 : q < bX + 59 := h2.2; omega) hq0
  refine lv_aload_n hx hb dL_law_600 rfl (lv_at hl 2 rfl) ?_
  refine lv_aload_n hx hb dL_law_601 rfl (lv_at hl 0 rfl) ?_
  refine lv_iload_n hx hb dL_law_602 rfl (lv_at hl 3 rfl) ?_
  refine lv_iconst (v := 1) hx hb dL_law_603 (by decide) ?_
  refine lv_iadd hx hb dL_law_604 ?_
  refine va_sld hx hb hX hbl hbA hS (lw_in hL hk6 (j := 1) (by decide) hix rfl rfl) dL_law_605 ?_
  refine lv_aload_n hx hb dL_law_606 rfl (lv_at hl 0 rfl) ?_
  refine lv_iload_n hx hb dL_law_607 rfl (lv_at hl 3 rfl) ?_
  refine lv_iconst (v := 2) hx hb dL_law_608 (by decide) ?_
  refine lv_iadd hx hb dL_law_609 ?_
  refine va_sld hx hb hX hbl hbA hS (lw_in hL hk6 (j := 2) (by decide) hix rfl rfl) dL_law_610 ?_
  refine lv_aload_n hx hb dL_law_611 rfl (lv_at hl 0 rfl) ?_
  refine lv_iload_n hx hb dL_law_612 rfl (lv_at hl 3 rfl) ?_
  refine lv_iconst (v := 3) hx hb dL_law_613 (by decide) ?_
  refine lv_iadd hx hb dL_law_614 ?_
  refine va_sld hx hb hX hbl hbA hS (lw_in hL hk6 (j := 3) (by decide) hix rfl rfl) dL_law_615 ?_
  refine lw_call (sp := spM) (b := bM) (n1 := 16) (A := fun q => s.heap.size ≤ q) (As := [vI (xs (ix + 1).toNatClampNeg), vI (xs (ix + 2).toNatClampNeg), vI (xs (ix + 3).toNatClampNeg)]) (rest := [zval 0 (vI r)]) (ci := 8) ⟨hx, hb, hml, hown, hts⟩ hKv (zB_mono hB (by omega)) (kX8_leave l Z bM none 0 _ _ _ stM) eM (hN _ _ hInv).2 (by decide) rfl rfl (by decide) hkL_72 ⟨rfl, rfl⟩ hdL_X8_leave ⟨Nat.le_of_ble_eq_true rfl, Nat.le_of_ble_eq_true rfl⟩ hcs hIM (fun q h => Nat.le_trans (by omega) h.1) (fun q h => h) hS hl.1 rfl rfl (Nat.le_of_ble_eq_true rfl) dL_law_616 (fun H1 locs1 hq1 hspM1 hS => ?_)
  have hspX1 := zI_stay hspX1 (fun q h1 h2 => by have h3 : bM ≤ q := h2.1; have h4 : q < bX + 59 := h1.2; omega) hq1
  refine lv_icmp_eq (tgt := 1247) hx hb dL_law_619 (by decide) (fun _ => ?_) (fun h => absurd rfl h)
  exact hgo H1 locs1 X1 M1 hI1 hspX1 hspM1 hS
set_option maxRecDepth 100000 in
set_option maxHeartbeats 4000000 in
theorem law_gladdest {p : Program} {e : Env} {s : State} {m : MethodId} {below : List Frame} {meth : Method} {c : Code} (l : Launch) {b L : Nat} {xs : Nat → Int32} (hx : p.tables.exec = Jvm.exec) (hb : c.code = code) (hr : meth.sig.returnType = ret) (hml : c.maxLocals = 4) (hown : s.vm.findClass RL = some m.cls) (hts : ∀ w ∈ wsL_law, w.before #[Value.ref b] s = true) (hX : va_X b L xs s s.heap) (hbl : b < s.heap.size) (hlocks : meth.locks = false) (hL : L ≤ 3072) {Z : zZ} {bX bM : Nat} (hbX : s.heap.size ≤ bX) (hbM : bM = bX + 59) (hKv : va_K Z.1 vwCl (zT Z.2.1) s) (hB : zB Z.2.2 bX s) {Inv : zS → zS → Prop} (hN : ∀ X M, Inv X M → X.1 = 59 ∧ M.1 = 16) (hT : ∀ (a0 : Int32) (a1 : Int32), TM2 Inv (fun st => fX7_gladdest 0 a0 a1 st) (fun st => fX8_gladdest 0 a0 a1 st)) {cells slots : Nat} (hcs : cells ≤ room_1.cells ∧ slots ≤ room_1.slots) {k : Nat} {ix : Int32} (hix : ix = nI k) (hk6 : k + 6 ≤ L) {stX stM : zS} (hInv : Inv stX stM) {H : Heap} {locs : List Loc} {ls : Array Slot} (hIX : zI Z spX bX none (zA bX 59) stX H) (hIM : zI Z spM bM none (zA bM 16) stM H) (hS : va_S (fun q => s.heap.size ≤ q) s.heap H locs) (hl : lv_has ls 4 [(0, .ref b), (1, .ref bX), (2, .ref bM), (3, .int ix)]) (hgo : ∀ (H1 : Heap) (locs1 : List Loc) (X1 M1 : zS), Inv X1 M1 → zI Z spX bX none (zA bX 59) X1 H1 → zI Z spM bM none (zA bM 16) M1 H1 → va_S (fun q => s.heap.size ≤ q) s.heap H1 locs1 → W p l e room_1 s m #[Value.ref b] below meth c H1 locs1 cells slots (lw_Z below #[Value.ref b] s) (F0 m 1247 ls [])) : W p l e room_1 s m #[Value.ref b] below meth c H locs cells slots (lw_Z below #[Value.ref b] s) (F0 m 624 ls []) := by
  have hbA : ¬ s.heap.size ≤ b := Nat.not_le.mpr hbl
  obtain ⟨r, X1, M1, eX, eM, hI1⟩ := hT (xs (ix + 1).toNatClampNeg) (xs (ix + 2).toNatClampNeg) stX stM hInv
  refine lv_aload_n hx hb dL_law_624 rfl (lv_at hl 1 rfl) ?_
  refine lv_aload_n hx hb dL_law_625 rfl (lv_at hl 0 rfl) ?_
  refine lv_iload_n hx hb dL_law_626 rfl (lv_at hl 3 rfl) ?_
  refine lv_iconst (v := 1) hx hb dL_law_627 (by decide) ?_
  refine lv_iadd hx hb dL_law_628 ?_
  refine va_sld hx hb hX hbl hbA hS (lw_in hL hk6 (j := 1) (by decide) hix rfl rfl) dL_law_629 ?_
  refine lv_aload_n hx hb dL_law_630 rfl (lv_at hl 0 rfl) ?_
  refine lv_iload_n hx hb dL_law_631 rfl (lv_at hl 3 rfl) ?_
  refine lv_iconst (v := 2) hx hb dL_law_632 (by decide) ?_
  refine lv_iadd hx hb dL_law_633 ?_
  refine va_sld hx hb hX hbl hbA hS (lw_in hL hk6 (j := 2) (by decide) hix rfl rfl) dL_law_634 ?_
  refine lw_call (sp := spX) (b := bX) (n1 := 59) (A := fun q => s.heap.size ≤ q) (As := [vI (xs (ix + 1).toNatClampNeg), vI (xs (ix + 2).toNatClampNeg)]) (rest := []) (ci := 7) ⟨hx, hb, hml, hown, hts⟩ hKv hB (kX7_gladdest l Z bX none 0 _ _ stX) eX (hN _ _ hInv).1 (by decide) rfl rfl (by decide) hkL_73 ⟨rfl, rfl⟩ hdL_X7_gladdest ⟨Nat.le_of_ble_eq_true rfl, Nat.le_of_ble_eq_true rfl⟩ hcs hIX (fun q h => Nat.le_trans (by omega) h.1) (fun q h => h) hS hl.1 rfl rfl (Nat.le_of_ble_eq_true rfl) dL_law_635 (fun H1 locs1 hq0 hspX1 hS => ?_)
  have hIM := zI_stay hIM (fun q h1 h2 => by have h3 : bM ≤ q := h1.1; have h4 : q < bX + 59 := h2.2; omega) hq0
  refine lv_aload_n hx hb dL_law_638 rfl (lv_at hl 2 rfl) ?_
  refine lv_aload_n hx hb dL_law_639 rfl (lv_at hl 0 rfl) ?_
  refine lv_iload_n hx hb dL_law_640 rfl (lv_at hl 3 rfl) ?_
  refine lv_iconst (v := 1) hx hb dL_law_641 (by decide) ?_
  refine lv_iadd hx hb dL_law_642 ?_
  refine va_sld hx hb hX hbl hbA hS (lw_in hL hk6 (j := 1) (by decide) hix rfl rfl) dL_law_643 ?_
  refine lv_aload_n hx hb dL_law_644 rfl (lv_at hl 0 rfl) ?_
  refine lv_iload_n hx hb dL_law_645 rfl (lv_at hl 3 rfl) ?_
  refine lv_iconst (v := 2) hx hb dL_law_646 (by decide) ?_
  refine lv_iadd hx hb dL_law_647 ?_
  refine va_sld hx hb hX hbl hbA hS (lw_in hL hk6 (j := 2) (by decide) hix rfl rfl) dL_law_648 ?_
  refine lw_call (sp := spM) (b := bM) (n1 := 16) (A := fun q => s.heap.size ≤ q) (As := [vI (xs (ix + 1).toNatClampNeg), vI (xs (ix + 2).toNatClampNeg)]) (rest := [zval 0 (vI r)]) (ci := 8) ⟨hx, hb, hml, hown, hts⟩ hKv (zB_mono hB (by omega)) (kX8_gladdest l Z bM none 0 _ _ stM) eM (hN _ _ hInv).2 (by decide) rfl rfl (by decide) hkL_76 ⟨rfl, rfl⟩ hdL_X8_gladdest ⟨Nat.le_of_ble_eq_true rfl, Nat.le_of_ble_eq_true rfl⟩ hcs hIM (fun q h => Nat.le_trans (by omega) h.1) (fun q h => h) hS hl.1 rfl rfl (Nat.le_of_ble_eq_true rfl) dL_law_649 (fun H1 locs1 hq1 hspM1 hS => ?_)
  have hspX1 := zI_stay hspX1 (fun q h1 h2 => by have h3 : bM ≤ q := h2.1; have h4 : q < bX + 59 := h1.2; omega) hq1
  refine lv_icmp_eq (tgt := 1247) hx hb dL_law_652 (by decide) (fun _ => ?_) (fun h => absurd rfl h)
  exact hgo H1 locs1 X1 M1 hI1 hspX1 hspM1 hS
set_option maxRecDepth 100000 in
set_option maxHeartbeats 4000000 in
theorem law_get {p : Program} {e : Env} {s : State} {m : MethodId} {below : List Frame} {meth : Method} {c : Code} (l : Launch) {b L : Nat} {xs : Nat → Int32} (hx : p.tables.exec = Jvm.exec) (hb : c.code = code) (hr : meth.sig.returnType = ret) (hml : c.maxLocals = 4) (hown : s.vm.findClass RL = some m.cls) (hts : ∀ w ∈ wsL_law, w.before #[Value.ref b] s = true) (hX : va_X b L xs s s.heap) (hbl : b < s.heap.size) (hlocks : meth.locks = false) (hL : L ≤ 3072) {Z : zZ} {bX bM : Nat} (hbX : s.heap.size ≤ bX) (hbM : bM = bX + 59) (hKv : va_K Z.1 vwCl (zT Z.2.1) s) (hB : zB Z.2.2 bX s) {Inv : zS → zS → Prop} (hN : ∀ X M, Inv X M → X.1 = 59 ∧ M.1 = 16) (hT : ∀ (a0 : Int32) (a1 : Int32) (a2 : Int32), TM2 Inv (fun st => fX7_get 0 a0 a1 a2 st) (fun st => fX8_get 0 a0 a1 a2 st)) {cells slots : Nat} (hcs : cells ≤ room_1.cells ∧ slots ≤ room_1.slots) {k : Nat} {ix : Int32} (hix : ix = nI k) (hk6 : k + 6 ≤ L) {stX stM : zS} (hInv : Inv stX stM) {H : Heap} {locs : List Loc} {ls : Array Slot} (hIX : zI Z spX bX none (zA bX 59) stX H) (hIM : zI Z spM bM none (zA bM 16) stM H) (hS : va_S (fun q => s.heap.size ≤ q) s.heap H locs) (hl : lv_has ls 4 [(0, .ref b), (1, .ref bX), (2, .ref bM), (3, .int ix)]) (hgo : ∀ (H1 : Heap) (locs1 : List Loc) (X1 M1 : zS), Inv X1 M1 → zI Z spX bX none (zA bX 59) X1 H1 → zI Z spM bM none (zA bM 16) M1 H1 → va_S (fun q => s.heap.size ≤ q) s.heap H1 locs1 → W p l e room_1 s m #[Value.ref b] below meth c H1 locs1 cells slots (lw_Z below #[Value.ref b] s) (F0 m 1247 ls [])) : W p l e room_1 s m #[Value.ref b] below meth c H locs cells slots (lw_Z below #[Value.ref b] s) (F0 m 657 ls []) := by
  have hbA : ¬ s.heap.size ≤ b := Nat.not_le.mpr hbl
  obtain ⟨r, X1, M1, eX, eM, hI1⟩ := hT (xs (ix + 1).toNatClampNeg) (xs (ix + 2).toNatClampNeg) (xs (ix + 3).toNatClampNeg) stX stM hInv
  refine lv_aload_n hx hb dL_law_657 rfl (lv_at hl 1 rfl) ?_
  refine lv_aload_n hx hb dL_law_658 rfl (lv_at hl 0 rfl) ?_
  refine lv_iload_n hx hb dL_law_659 rfl (lv_at hl 3 rfl) ?_
  refine lv_iconst (v := 1) hx hb dL_law_660 (by decide) ?_
  refine lv_iadd hx hb dL_law_661 ?_
  refine va_sld hx hb hX hbl hbA hS (lw_in hL hk6 (j := 1) (by decide) hix rfl rfl) dL_law_662 ?_
  refine lv_aload_n hx hb dL_law_663 rfl (lv_at hl 0 rfl) ?_
  refine lv_iload_n hx hb dL_law_664 rfl (lv_at hl 3 rfl) ?_
  refine lv_iconst (v := 2) hx hb dL_law_665 (by decide) ?_
  refine lv_iadd hx hb dL_law_666 ?_
  refine va_sld hx hb hX hbl hbA hS (lw_in hL hk6 (j := 2) (by decide) hix rfl rfl) dL_law_667 ?_
  refine lv_aload_n hx hb dL_law_668 rfl (lv_at hl 0 rfl) ?_
  refine lv_iload_n hx hb dL_law_669 rfl (lv_at hl 3 rfl) ?_
  refine lv_iconst (v := 3) hx hb dL_law_670 (by decide) ?_
  refine lv_iadd hx hb dL_law_671 ?_
  refine va_sld hx hb hX hbl hbA hS (lw_in hL hk6 (j := 3) (by decide) hix rfl rfl) dL_law_672 ?_
  refine lw_call (sp := spX) (b := bX) (n1 := 59) (A := fun q => s.heap.size ≤ q) (As := [vI (xs (ix + 1).toNatClampNeg), vI (xs (ix + 2).toNatClampNeg), vI (xs (ix + 3).toNatClampNeg)]) (rest := []) (ci := 7) ⟨hx, hb, hml, hown, hts⟩ hKv hB (kX7_get l Z bX none 0 _ _ _ stX) eX (hN _ _ hInv).1 (by decide) rfl rfl (by decide) hkL_77 ⟨rfl, rfl⟩ hdL_X7_get ⟨Nat.le_of_ble_eq_true rfl, Nat.le_of_ble_eq_true rfl⟩ hcs hIX (fun q h => Nat.le_trans (by omega) h.1) (fun q h => h) hS hl.1 rfl rfl (Nat.le_of_ble_eq_true rfl) dL_law_673 (fun H1 locs1 hq0 hspX1 hS => ?_)
  have hIM := zI_stay hIM (fun q h1 h2 => by have h3 : bM ≤ q := h1.1; have h4 : q < bX + 59 := h2.2; omega) hq0
  refine lv_aload_n hx hb dL_law_676 rfl (lv_at hl 2 rfl) ?_
  refine lv_aload_n hx hb dL_law_677 rfl (lv_at hl 0 rfl) ?_
  refine lv_iload_n hx hb dL_law_678 rfl (lv_at hl 3 rfl) ?_
  refine lv_iconst (v := 1) hx hb dL_law_679 (by decide) ?_
  refine lv_iadd hx hb dL_law_680 ?_
  refine va_sld hx hb hX hbl hbA hS (lw_in hL hk6 (j := 1) (by decide) hix rfl rfl) dL_law_681 ?_
  refine lv_aload_n hx hb dL_law_682 rfl (lv_at hl 0 rfl) ?_
  refine lv_iload_n hx hb dL_law_683 rfl (lv_at hl 3 rfl) ?_
  refine lv_iconst (v := 2) hx hb dL_law_684 (by decide) ?_
  refine lv_iadd hx hb dL_law_685 ?_
  refine va_sld hx hb hX hbl hbA hS (lw_in hL hk6 (j := 2) (by decide) hix rfl rfl) dL_law_686 ?_
  refine lv_aload_n hx hb dL_law_687 rfl (lv_at hl 0 rfl) ?_
  refine lv_iload_n hx hb dL_law_688 rfl (lv_at hl 3 rfl) ?_
  refine lv_iconst (v := 3) hx hb dL_law_689 (by decide) ?_
  refine lv_iadd hx hb dL_law_690 ?_
  refine va_sld hx hb hX hbl hbA hS (lw_in hL hk6 (j := 3) (by decide) hix rfl rfl) dL_law_691 ?_
  refine lw_call (sp := spM) (b := bM) (n1 := 16) (A := fun q => s.heap.size ≤ q) (As := [vI (xs (ix + 1).toNatClampNeg), vI (xs (ix + 2).toNatClampNeg), vI (xs (ix + 3).toNatClampNeg)]) (rest := [zval 0 (vI r)]) (ci := 8) ⟨hx, hb, hml, hown, hts⟩ hKv (zB_mono hB (by omega)) (kX8_get l Z bM none 0 _ _ _ stM) eM (hN _ _ hInv).2 (by decide) rfl rfl (by decide) hkL_80 ⟨rfl, rfl⟩ hdL_X8_get ⟨Nat.le_of_ble_eq_true rfl, Nat.le_of_ble_eq_true rfl⟩ hcs hIM (fun q h => Nat.le_trans (by omega) h.1) (fun q h => h) hS hl.1 rfl rfl (Nat.le_of_ble_eq_true rfl) dL_law_692 (fun H1 locs1 hq1 hspM1 hS => ?_)
  have hspX1 := zI_stay hspX1 (fun q h1 h2 => by have h3 : bM ≤ q := h2.1; have h4 : q < bX + 59 := h1.2; omega) hq1
  refine lv_icmp_eq (tgt := 1247) hx hb dL_law_695 (by decide) (fun _ => ?_) (fun h => absurd rfl h)
  exact hgo H1 locs1 X1 M1 hI1 hspX1 hspM1 hS
set_option maxRecDepth 100000 in
set_option maxHeartbeats 4000000 in
theorem law_map {p : Program} {e : Env} {s : State} {m : MethodId} {below : List Frame} {meth : Method} {c : Code} (l : Launch) {b L : Nat} {xs : Nat → Int32} (hx : p.tables.exec = Jvm.exec) (hb : c.code = code) (hr : meth.sig.returnType = ret) (hml : c.maxLocals = 4) (hown : s.vm.findClass RL = some m.cls) (hts : ∀ w ∈ wsL_law, w.before #[Value.ref b] s = true) (hX : va_X b L xs s s.heap) (hbl : b < s.heap.size) (hlocks : meth.locks = false) (hL : L ≤ 3072) {Z : zZ} {bX bM : Nat} (hbX : s.heap.size ≤ bX) (hbM : bM = bX + 59) (hKv : va_K Z.1 vwCl (zT Z.2.1) s) (hB : zB Z.2.2 bX s) {Inv : zS → zS → Prop} (hN : ∀ X M, Inv X M → X.1 = 59 ∧ M.1 = 16) (hT : ∀ (a0 : Int32), TM2 Inv (fun st => fX7_map 0 a0 st) (fun st => fX8_map 0 a0 st)) {cells slots : Nat} (hcs : cells ≤ room_1.cells ∧ slots ≤ room_1.slots) {k : Nat} {ix : Int32} (hix : ix = nI k) (hk6 : k + 6 ≤ L) {stX stM : zS} (hInv : Inv stX stM) {H : Heap} {locs : List Loc} {ls : Array Slot} (hIX : zI Z spX bX none (zA bX 59) stX H) (hIM : zI Z spM bM none (zA bM 16) stM H) (hS : va_S (fun q => s.heap.size ≤ q) s.heap H locs) (hl : lv_has ls 4 [(0, .ref b), (1, .ref bX), (2, .ref bM), (3, .int ix)]) (hgo : ∀ (H1 : Heap) (locs1 : List Loc) (X1 M1 : zS), Inv X1 M1 → zI Z spX bX none (zA bX 59) X1 H1 → zI Z spM bM none (zA bM 16) M1 H1 → va_S (fun q => s.heap.size ≤ q) s.heap H1 locs1 → W p l e room_1 s m #[Value.ref b] below meth c H1 locs1 cells slots (lw_Z below #[Value.ref b] s) (F0 m 1247 ls [])) : W p l e room_1 s m #[Value.ref b] below meth c H locs cells slots (lw_Z below #[Value.ref b] s) (F0 m 700 ls []) := by
  have hbA : ¬ s.heap.size ≤ b := Nat.not_le.mpr hbl
  obtain ⟨r, X1, M1, eX, eM, hI1⟩ := hT (xs (ix + 1).toNatClampNeg) stX stM hInv
  refine lv_aload_n hx hb dL_law_700 rfl (lv_at hl 1 rfl) ?_
  refine lv_aload_n hx hb dL_law_701 rfl (lv_at hl 0 rfl) ?_
  refine lv_iload_n hx hb dL_law_702 rfl (lv_at hl 3 rfl) ?_
  refine lv_iconst (v := 1) hx hb dL_law_703 (by decide) ?_
  refine lv_iadd hx hb dL_law_704 ?_
  refine va_sld hx hb hX hbl hbA hS (lw_in hL hk6 (j := 1) (by decide) hix rfl rfl) dL_law_705 ?_
  refine lw_call (sp := spX) (b := bX) (n1 := 59) (A := fun q => s.heap.size ≤ q) (As := [vI (xs (ix + 1).toNatClampNeg)]) (rest := []) (ci := 7) ⟨hx, hb, hml, hown, hts⟩ hKv hB (kX7_map l Z bX none 0 _ stX) eX (hN _ _ hInv).1 (by decide) rfl rfl (by decide) hkL_81 ⟨rfl, rfl⟩ hdL_X7_map ⟨Nat.le_of_ble_eq_true rfl, Nat.le_of_ble_eq_true rfl⟩ hcs hIX (fun q h => Nat.le_trans (by omega) h.1) (fun q h => h) hS hl.1 rfl rfl (Nat.le_of_ble_eq_true rfl) dL_law_706 (fun H1 locs1 hq0 hspX1 hS => ?_)
  have hIM := zI_stay hIM (fun q h1 h2 => by have h3 : bM ≤ q := h1.1; have h4 : q < bX + 59 := h2.2; omega) hq0
  refine lv_aload_n hx hb dL_law_709 rfl (lv_at hl 2 rfl) ?_
  refine lv_aload_n hx hb dL_law_710 rfl (lv_at hl 0 rfl) ?_
  refine lv_iload_n hx hb dL_law_711 rfl (lv_at hl 3 rfl) ?_
  refine lv_iconst (v := 1) hx hb dL_law_712 (by decide) ?_
  refine lv_iadd hx hb dL_law_713 ?_
  refine va_sld hx hb hX hbl hbA hS (lw_in hL hk6 (j := 1) (by decide) hix rfl rfl) dL_law_714 ?_
  refine lw_call (sp := spM) (b := bM) (n1 := 16) (A := fun q => s.heap.size ≤ q) (As := [vI (xs (ix + 1).toNatClampNeg)]) (rest := [zval 0 (vI r)]) (ci := 8) ⟨hx, hb, hml, hown, hts⟩ hKv (zB_mono hB (by omega)) (kX8_map l Z bM none 0 _ stM) eM (hN _ _ hInv).2 (by decide) rfl rfl (by decide) hkL_84 ⟨rfl, rfl⟩ hdL_X8_map ⟨Nat.le_of_ble_eq_true rfl, Nat.le_of_ble_eq_true rfl⟩ hcs hIM (fun q h => Nat.le_trans (by omega) h.1) (fun q h => h) hS hl.1 rfl rfl (Nat.le_of_ble_eq_true rfl) dL_law_715 (fun H1 locs1 hq1 hspM1 hS => ?_)
  have hspX1 := zI_stay hspX1 (fun q h1 h2 => by have h3 : bM ≤ q := h2.1; have h4 : q < bX + 59 := h1.2; omega) hq1
  refine lv_icmp_eq (tgt := 1247) hx hb dL_law_718 (by decide) (fun _ => ?_) (fun h => absurd rfl h)
  exact hgo H1 locs1 X1 M1 hI1 hspX1 hspM1 hS
set_option maxRecDepth 100000 in
set_option maxHeartbeats 4000000 in
theorem law_net {p : Program} {e : Env} {s : State} {m : MethodId} {below : List Frame} {meth : Method} {c : Code} (l : Launch) {b L : Nat} {xs : Nat → Int32} (hx : p.tables.exec = Jvm.exec) (hb : c.code = code) (hr : meth.sig.returnType = ret) (hml : c.maxLocals = 4) (hown : s.vm.findClass RL = some m.cls) (hts : ∀ w ∈ wsL_law, w.before #[Value.ref b] s = true) (hX : va_X b L xs s s.heap) (hbl : b < s.heap.size) (hlocks : meth.locks = false) (hL : L ≤ 3072) {Z : zZ} {bX bM : Nat} (hbX : s.heap.size ≤ bX) (hbM : bM = bX + 59) (hKv : va_K Z.1 vwCl (zT Z.2.1) s) (hB : zB Z.2.2 bX s) {Inv : zS → zS → Prop} (hN : ∀ X M, Inv X M → X.1 = 59 ∧ M.1 = 16) (hT : ∀ (a0 : Int32), TM2 Inv (fun st => fX7_net 0 a0 st) (fun st => fX8_net 0 a0 st)) {cells slots : Nat} (hcs : cells ≤ room_1.cells ∧ slots ≤ room_1.slots) {k : Nat} {ix : Int32} (hix : ix = nI k) (hk6 : k + 6 ≤ L) {stX stM : zS} (hInv : Inv stX stM) {H : Heap} {locs : List Loc} {ls : Array Slot} (hIX : zI Z spX bX none (zA bX 59) stX H) (hIM : zI Z spM bM none (zA bM 16) stM H) (hS : va_S (fun q => s.heap.size ≤ q) s.heap H locs) (hl : lv_has ls 4 [(0, .ref b), (1, .ref bX), (2, .ref bM), (3, .int ix)]) (hgo : ∀ (H1 : Heap) (locs1 : List Loc) (X1 M1 : zS), Inv X1 M1 → zI Z spX bX none (zA bX 59) X1 H1 → zI Z spM bM none (zA bM 16) M1 H1 → va_S (fun q => s.heap.size ≤ q) s.heap H1 locs1 → W p l e room_1 s m #[Value.ref b] below meth c H1 locs1 cells slots (lw_Z below #[Value.ref b] s) (F0 m 1247 ls [])) : W p l e room_1 s m #[Value.ref b] below meth c H locs cells slots (lw_Z below #[Value.ref b] s) (F0 m 723 ls []) := by
  have hbA : ¬ s.heap.size ≤ b := Nat.not_le.mpr hbl
  obtain ⟨r, X1, M1, eX, eM, hI1⟩ := hT (xs (ix + 1).toNatClampNeg) stX stM hInv
  refine lv_aload_n hx hb dL_law_723 rfl (lv_at hl 1 rfl) ?_
  refine lv_aload_n hx hb dL_law_724 rfl (lv_at hl 0 rfl) ?_
  refine lv_iload_n hx hb dL_law_725 rfl (lv_at hl 3 rfl) ?_
  refine lv_iconst (v := 1) hx hb dL_law_726 (by decide) ?_
  refine lv_iadd hx hb dL_law_727 ?_
  refine va_sld hx hb hX hbl hbA hS (lw_in hL hk6 (j := 1) (by decide) hix rfl rfl) dL_law_728 ?_
  refine lw_call (sp := spX) (b := bX) (n1 := 59) (A := fun q => s.heap.size ≤ q) (As := [vI (xs (ix + 1).toNatClampNeg)]) (rest := []) (ci := 7) ⟨hx, hb, hml, hown, hts⟩ hKv hB (kX7_net l Z bX none 0 _ stX) eX (hN _ _ hInv).1 (by decide) rfl rfl (by decide) hkL_85 ⟨rfl, rfl⟩ hdL_X7_net ⟨Nat.le_of_ble_eq_true rfl, Nat.le_of_ble_eq_true rfl⟩ hcs hIX (fun q h => Nat.le_trans (by omega) h.1) (fun q h => h) hS hl.1 rfl rfl (Nat.le_of_ble_eq_true rfl) dL_law_729 (fun H1 locs1 hq0 hspX1 hS => ?_)
  have hIM := zI_stay hIM (fun q h1 h2 => by have h3 : bM ≤ q := h1.1; have h4 : q < bX + 59 := h2.2; omega) hq0
  refine lv_aload_n hx hb dL_law_732 rfl (lv_at hl 2 rfl) ?_
  refine lv_aload_n hx hb dL_law_733 rfl (lv_at hl 0 rfl) ?_
  refine lv_iload_n hx hb dL_law_734 rfl (lv_at hl 3 rfl) ?_
  refine lv_iconst (v := 1) hx hb dL_law_735 (by decide) ?_
  refine lv_iadd hx hb dL_law_736 ?_
  refine va_sld hx hb hX hbl hbA hS (lw_in hL hk6 (j := 1) (by decide) hix rfl rfl) dL_law_737 ?_
  refine lw_call (sp := spM) (b := bM) (n1 := 16) (A := fun q => s.heap.size ≤ q) (As := [vI (xs (ix + 1).toNatClampNeg)]) (rest := [zval 0 (vI r)]) (ci := 8) ⟨hx, hb, hml, hown, hts⟩ hKv (zB_mono hB (by omega)) (kX8_net l Z bM none 0 _ stM) eM (hN _ _ hInv).2 (by decide) rfl rfl (by decide) hkL_88 ⟨rfl, rfl⟩ hdL_X8_net ⟨Nat.le_of_ble_eq_true rfl, Nat.le_of_ble_eq_true rfl⟩ hcs hIM (fun q h => Nat.le_trans (by omega) h.1) (fun q h => h) hS hl.1 rfl rfl (Nat.le_of_ble_eq_true rfl) dL_law_738 (fun H1 locs1 hq1 hspM1 hS => ?_)
  have hspX1 := zI_stay hspX1 (fun q h1 h2 => by have h3 : bM ≤ q := h2.1; have h4 : q < bX + 59 := h1.2; omega) hq1
  refine lv_icmp_eq (tgt := 1247) hx hb dL_law_741 (by decide) (fun _ => ?_) (fun h => absurd rfl h)
  exact hgo H1 locs1 X1 M1 hI1 hspX1 hspM1 hS
set_option maxRecDepth 100000 in
set_option maxHeartbeats 4000000 in
theorem law_share {p : Program} {e : Env} {s : State} {m : MethodId} {below : List Frame} {meth : Method} {c : Code} (l : Launch) {b L : Nat} {xs : Nat → Int32} (hx : p.tables.exec = Jvm.exec) (hb : c.code = code) (hr : meth.sig.returnType = ret) (hml : c.maxLocals = 4) (hown : s.vm.findClass RL = some m.cls) (hts : ∀ w ∈ wsL_law, w.before #[Value.ref b] s = true) (hX : va_X b L xs s s.heap) (hbl : b < s.heap.size) (hlocks : meth.locks = false) (hL : L ≤ 3072) {Z : zZ} {bX bM : Nat} (hbX : s.heap.size ≤ bX) (hbM : bM = bX + 59) (hKv : va_K Z.1 vwCl (zT Z.2.1) s) (hB : zB Z.2.2 bX s) {Inv : zS → zS → Prop} (hN : ∀ X M, Inv X M → X.1 = 59 ∧ M.1 = 16) (hT : ∀ (a0 : Int32) (a1 : Int32), TM2 Inv (fun st => fX7_share 0 a0 a1 st) (fun st => fX8_share 0 a0 a1 st)) {cells slots : Nat} (hcs : cells ≤ room_1.cells ∧ slots ≤ room_1.slots) {k : Nat} {ix : Int32} (hix : ix = nI k) (hk6 : k + 6 ≤ L) {stX stM : zS} (hInv : Inv stX stM) {H : Heap} {locs : List Loc} {ls : Array Slot} (hIX : zI Z spX bX none (zA bX 59) stX H) (hIM : zI Z spM bM none (zA bM 16) stM H) (hS : va_S (fun q => s.heap.size ≤ q) s.heap H locs) (hl : lv_has ls 4 [(0, .ref b), (1, .ref bX), (2, .ref bM), (3, .int ix)]) (hgo : ∀ (H1 : Heap) (locs1 : List Loc) (X1 M1 : zS), Inv X1 M1 → zI Z spX bX none (zA bX 59) X1 H1 → zI Z spM bM none (zA bM 16) M1 H1 → va_S (fun q => s.heap.size ≤ q) s.heap H1 locs1 → W p l e room_1 s m #[Value.ref b] below meth c H1 locs1 cells slots (lw_Z below #[Value.ref b] s) (F0 m 1247 ls [])) : W p l e room_1 s m #[Value.ref b] below meth c H locs cells slots (lw_Z below #[Value.ref b] s) (F0 m 746 ls []) := by
  have hbA : ¬ s.heap.size ≤ b := Nat.not_le.mpr hbl
  obtain ⟨r, X1, M1, eX, eM, hI1⟩ := hT (xs (ix + 1).toNatClampNeg) (xs (ix + 2).toNatClampNeg) stX stM hInv
  refine lv_aload_n hx hb dL_law_746 rfl (lv_at hl 1 rfl) ?_
  refine lv_aload_n hx hb dL_law_747 rfl (lv_at hl 0 rfl) ?_
  refine lv_iload_n hx hb dL_law_748 rfl (lv_at hl 3 rfl) ?_
  refine lv_iconst (v := 1) hx hb dL_law_749 (by decide) ?_
  refine lv_iadd hx hb dL_law_750 ?_
  refine va_sld hx hb hX hbl hbA hS (lw_in hL hk6 (j := 1) (by decide) hix rfl rfl) dL_law_751 ?_
  refine lv_aload_n hx hb dL_law_752 rfl (lv_at hl 0 rfl) ?_
  refine lv_iload_n hx hb dL_law_753 rfl (lv_at hl 3 rfl) ?_
  refine lv_iconst (v := 2) hx hb dL_law_754 (by decide) ?_
  refine lv_iadd hx hb dL_law_755 ?_
  refine va_sld hx hb hX hbl hbA hS (lw_in hL hk6 (j := 2) (by decide) hix rfl rfl) dL_law_756 ?_
  refine lw_call (sp := spX) (b := bX) (n1 := 59) (A := fun q => s.heap.size ≤ q) (As := [vI (xs (ix + 1).toNatClampNeg), vI (xs (ix + 2).toNatClampNeg)]) (rest := []) (ci := 7) ⟨hx, hb, hml, hown, hts⟩ hKv hB (kX7_share l Z bX none 0 _ _ stX) eX (hN _ _ hInv).1 (by decide) rfl rfl (by decide) hkL_89 ⟨rfl, rfl⟩ hdL_X7_share ⟨Nat.le_of_ble_eq_true rfl, Nat.le_of_ble_eq_true rfl⟩ hcs hIX (fun q h => Nat.le_trans (by omega) h.1) (fun q h => h) hS hl.1 rfl rfl (Nat.le_of_ble_eq_true rfl) dL_law_757 (fun H1 locs1 hq0 hspX1 hS => ?_)
  have hIM := zI_stay hIM (fun q h1 h2 => by have h3 : bM ≤ q := h1.1; have h4 : q < bX + 59 := h2.2; omega) hq0
  refine lv_aload_n hx hb dL_law_760 rfl (lv_at hl 2 rfl) ?_
  refine lv_aload_n hx hb dL_law_761 rfl (lv_at hl 0 rfl) ?_
  refine lv_iload_n hx hb dL_law_762 rfl (lv_at hl 3 rfl) ?_
  refine lv_iconst (v := 1) hx hb dL_law_763 (by decide) ?_
  refine lv_iadd hx hb dL_law_764 ?_
  refine va_sld hx hb hX hbl hbA hS (lw_in hL hk6 (j := 1) (by decide) hix rfl rfl) dL_law_765 ?_
  refine lv_aload_n hx hb dL_law_766 rfl (lv_at hl 0 rfl) ?_
  refine lv_iload_n hx hb dL_law_767 rfl (lv_at hl 3 rfl) ?_
  refine lv_iconst (v := 2) hx hb dL_law_768 (by decide) ?_
  refine lv_iadd hx hb dL_law_769 ?_
  refine va_sld hx hb hX hbl hbA hS (lw_in hL hk6 (j := 2) (by decide) hix rfl rfl) dL_law_770 ?_
  refine lw_call (sp := spM) (b := bM) (n1 := 16) (A := fun q => s.heap.size ≤ q) (As := [vI (xs (ix + 1).toNatClampNeg), vI (xs (ix + 2).toNatClampNeg)]) (rest := [zval 0 (vL r)]) (ci := 8) ⟨hx, hb, hml, hown, hts⟩ hKv (zB_mono hB (by omega)) (kX8_share l Z bM none 0 _ _ stM) eM (hN _ _ hInv).2 (by decide) rfl rfl (by decide) hkL_93 ⟨rfl, rfl⟩ hdL_X8_share ⟨Nat.le_of_ble_eq_true rfl, Nat.le_of_ble_eq_true rfl⟩ hcs hIM (fun q h => Nat.le_trans (by omega) h.1) (fun q h => h) hS hl.1 rfl rfl (Nat.le_of_ble_eq_true rfl) dL_law_771 (fun H1 locs1 hq1 hspM1 hS => ?_)
  have hspX1 := zI_stay hspX1 (fun q h1 h2 => by have h3 : bM ≤ q := h2.1; have h4 : q < bX + 59 := h1.2; omega) hq1
  refine W.lcmp hx hb dL_law_774 ?_
  refine lv_if_eq (tgt := 1247) hx hb dL_law_775 (by decide) (fun _ => ?_) (fun h => absurd (lg_cmp_self r) h)
  exact hgo H1 locs1 X1 M1 hI1 hspX1 hspM1 hS
set_option maxRecDepth 100000 in
set_option maxHeartbeats 4000000 in
theorem law_tells {p : Program} {e : Env} {s : State} {m : MethodId} {below : List Frame} {meth : Method} {c : Code} (l : Launch) {b L : Nat} {xs : Nat → Int32} (hx : p.tables.exec = Jvm.exec) (hb : c.code = code) (hr : meth.sig.returnType = ret) (hml : c.maxLocals = 4) (hown : s.vm.findClass RL = some m.cls) (hts : ∀ w ∈ wsL_law, w.before #[Value.ref b] s = true) (hX : va_X b L xs s s.heap) (hbl : b < s.heap.size) (hlocks : meth.locks = false) (hL : L ≤ 3072) {Z : zZ} {bX bM : Nat} (hbX : s.heap.size ≤ bX) (hbM : bM = bX + 59) (hKv : va_K Z.1 vwCl (zT Z.2.1) s) (hB : zB Z.2.2 bX s) {Inv : zS → zS → Prop} (hN : ∀ X M, Inv X M → X.1 = 59 ∧ M.1 = 16) (hT : ∀ (a0 : Int32) (a1 : Int32) (a2 : Int32), TM2 Inv (fun st => fX7_tells 0 a0 a1 a2 st) (fun st => fX8_tells 0 a0 a1 a2 st)) {cells slots : Nat} (hcs : cells ≤ room_1.cells ∧ slots ≤ room_1.slots) {k : Nat} {ix : Int32} (hix : ix = nI k) (hk6 : k + 6 ≤ L) {stX stM : zS} (hInv : Inv stX stM) {H : Heap} {locs : List Loc} {ls : Array Slot} (hIX : zI Z spX bX none (zA bX 59) stX H) (hIM : zI Z spM bM none (zA bM 16) stM H) (hS : va_S (fun q => s.heap.size ≤ q) s.heap H locs) (hl : lv_has ls 4 [(0, .ref b), (1, .ref bX), (2, .ref bM), (3, .int ix)]) (hgo : ∀ (H1 : Heap) (locs1 : List Loc) (X1 M1 : zS), Inv X1 M1 → zI Z spX bX none (zA bX 59) X1 H1 → zI Z spM bM none (zA bM 16) M1 H1 → va_S (fun q => s.heap.size ≤ q) s.heap H1 locs1 → W p l e room_1 s m #[Value.ref b] below meth c H1 locs1 cells slots (lw_Z below #[Value.ref b] s) (F0 m 1247 ls [])) : W p l e room_1 s m #[Value.ref b] below meth c H locs cells slots (lw_Z below #[Value.ref b] s) (F0 m 780 ls []) := by
  have hbA : ¬ s.heap.size ≤ b := Nat.not_le.mpr hbl
  obtain ⟨r, X1, M1, eX, eM, hI1⟩ := hT (xs (ix + 1).toNatClampNeg) (xs (ix + 2).toNatClampNeg) (xs (ix + 3).toNatClampNeg) stX stM hInv
  refine lv_aload_n hx hb dL_law_780 rfl (lv_at hl 1 rfl) ?_
  refine lv_aload_n hx hb dL_law_781 rfl (lv_at hl 0 rfl) ?_
  refine lv_iload_n hx hb dL_law_782 rfl (lv_at hl 3 rfl) ?_
  refine lv_iconst (v := 1) hx hb dL_law_783 (by decide) ?_
  refine lv_iadd hx hb dL_law_784 ?_
  refine va_sld hx hb hX hbl hbA hS (lw_in hL hk6 (j := 1) (by decide) hix rfl rfl) dL_law_785 ?_
  refine lv_aload_n hx hb dL_law_786 rfl (lv_at hl 0 rfl) ?_
  refine lv_iload_n hx hb dL_law_787 rfl (lv_at hl 3 rfl) ?_
  refine lv_iconst (v := 2) hx hb dL_law_788 (by decide) ?_
  refine lv_iadd hx hb dL_law_789 ?_
  refine va_sld hx hb hX hbl hbA hS (lw_in hL hk6 (j := 2) (by decide) hix rfl rfl) dL_law_790 ?_
  refine lv_aload_n hx hb dL_law_791 rfl (lv_at hl 0 rfl) ?_
  refine lv_iload_n hx hb dL_law_792 rfl (lv_at hl 3 rfl) ?_
  refine lv_iconst (v := 3) hx hb dL_law_793 (by decide) ?_
  refine lv_iadd hx hb dL_law_794 ?_
  refine va_sld hx hb hX hbl hbA hS (lw_in hL hk6 (j := 3) (by decide) hix rfl rfl) dL_law_795 ?_
  refine lw_call (sp := spX) (b := bX) (n1 := 59) (A := fun q => s.heap.size ≤ q) (As := [vI (xs (ix + 1).toNatClampNeg), vI (xs (ix + 2).toNatClampNeg), vI (xs (ix + 3).toNatClampNeg)]) (rest := []) (ci := 7) ⟨hx, hb, hml, hown, hts⟩ hKv hB (kX7_tells l Z bX none 0 _ _ _ stX) eX (hN _ _ hInv).1 (by decide) rfl rfl (by decide) hkL_94 ⟨rfl, rfl⟩ hdL_X7_tells ⟨Nat.le_of_ble_eq_true rfl, Nat.le_of_ble_eq_true rfl⟩ hcs hIX (fun q h => Nat.le_trans (by omega) h.1) (fun q h => h) hS hl.1 rfl rfl (Nat.le_of_ble_eq_true rfl) dL_law_796 (fun H1 locs1 hq0 hspX1 hS => ?_)
  have hIM := zI_stay hIM (fun q h1 h2 => by have h3 : bM ≤ q := h1.1; have h4 : q < bX + 59 := h2.2; omega) hq0
  refine lv_aload_n hx hb dL_law_799 rfl (lv_at hl 2 rfl) ?_
  refine lv_aload_n hx hb dL_law_800 rfl (lv_at hl 0 rfl) ?_
  refine lv_iload_n hx hb dL_law_801 rfl (lv_at hl 3 rfl) ?_
  refine lv_iconst (v := 1) hx hb dL_law_802 (by decide) ?_
  refine lv_iadd hx hb dL_law_803 ?_
  refine va_sld hx hb hX hbl hbA hS (lw_in hL hk6 (j := 1) (by decide) hix rfl rfl) dL_law_804 ?_
  refine lv_aload_n hx hb dL_law_805 rfl (lv_at hl 0 rfl) ?_
  refine lv_iload_n hx hb dL_law_806 rfl (lv_at hl 3 rfl) ?_
  refine lv_iconst (v := 2) hx hb dL_law_807 (by decide) ?_
  refine lv_iadd hx hb dL_law_808 ?_
  refine va_sld hx hb hX hbl hbA hS (lw_in hL hk6 (j := 2) (by decide) hix rfl rfl) dL_law_809 ?_
  refine lv_aload_n hx hb dL_law_810 rfl (lv_at hl 0 rfl) ?_
  refine lv_iload_n hx hb dL_law_811 rfl (lv_at hl 3 rfl) ?_
  refine lv_iconst (v := 3) hx hb dL_law_812 (by decide) ?_
  refine lv_iadd hx hb dL_law_813 ?_
  refine va_sld hx hb hX hbl hbA hS (lw_in hL hk6 (j := 3) (by decide) hix rfl rfl) dL_law_814 ?_
  refine lw_call (sp := spM) (b := bM) (n1 := 16) (A := fun q => s.heap.size ≤ q) (As := [vI (xs (ix + 1).toNatClampNeg), vI (xs (ix + 2).toNatClampNeg), vI (xs (ix + 3).toNatClampNeg)]) (rest := [zval 0 (vI r)]) (ci := 8) ⟨hx, hb, hml, hown, hts⟩ hKv (zB_mono hB (by omega)) (kX8_tells l Z bM none 0 _ _ _ stM) eM (hN _ _ hInv).2 (by decide) rfl rfl (by decide) hkL_97 ⟨rfl, rfl⟩ hdL_X8_tells ⟨Nat.le_of_ble_eq_true rfl, Nat.le_of_ble_eq_true rfl⟩ hcs hIM (fun q h => Nat.le_trans (by omega) h.1) (fun q h => h) hS hl.1 rfl rfl (Nat.le_of_ble_eq_true rfl) dL_law_815 (fun H1 locs1 hq1 hspM1 hS => ?_)
  have hspX1 := zI_stay hspX1 (fun q h1 h2 => by have h3 : bM ≤ q := h2.1; have h4 : q < bX + 59 := h1.2; omega) hq1
  refine lv_icmp_eq (tgt := 1247) hx hb dL_law_818 (by decide) (fun _ => ?_) (fun h => absurd rfl h)
  exact hgo H1 locs1 X1 M1 hI1 hspX1 hspM1 hS
set_option maxRecDepth 100000 in
set_option maxHeartbeats 4000000 in
theorem law_film {p : Program} {e : Env} {s : State} {m : MethodId} {below : List Frame} {meth : Method} {c : Code} (l : Launch) {b L : Nat} {xs : Nat → Int32} (hx : p.tables.exec = Jvm.exec) (hb : c.code = code) (hr : meth.sig.returnType = ret) (hml : c.maxLocals = 4) (hown : s.vm.findClass RL = some m.cls) (hts : ∀ w ∈ wsL_law, w.before #[Value.ref b] s = true) (hX : va_X b L xs s s.heap) (hbl : b < s.heap.size) (hlocks : meth.locks = false) (hL : L ≤ 3072) {Z : zZ} {bX bM : Nat} (hbX : s.heap.size ≤ bX) (hbM : bM = bX + 59) (hKv : va_K Z.1 vwCl (zT Z.2.1) s) (hB : zB Z.2.2 bX s) {Inv : zS → zS → Prop} (hN : ∀ X M, Inv X M → X.1 = 59 ∧ M.1 = 16) (hT : ∀ (a0 : Int32) (a1 : Int32), TM2 Inv (fun st => fX7_film 0 a0 a1 st) (fun st => fX8_film 0 a0 a1 st)) {cells slots : Nat} (hcs : cells ≤ room_1.cells ∧ slots ≤ room_1.slots) {k : Nat} {ix : Int32} (hix : ix = nI k) (hk6 : k + 6 ≤ L) {stX stM : zS} (hInv : Inv stX stM) {H : Heap} {locs : List Loc} {ls : Array Slot} (hIX : zI Z spX bX none (zA bX 59) stX H) (hIM : zI Z spM bM none (zA bM 16) stM H) (hS : va_S (fun q => s.heap.size ≤ q) s.heap H locs) (hl : lv_has ls 4 [(0, .ref b), (1, .ref bX), (2, .ref bM), (3, .int ix)]) (hgo : ∀ (H1 : Heap) (locs1 : List Loc) (X1 M1 : zS), Inv X1 M1 → zI Z spX bX none (zA bX 59) X1 H1 → zI Z spM bM none (zA bM 16) M1 H1 → va_S (fun q => s.heap.size ≤ q) s.heap H1 locs1 → W p l e room_1 s m #[Value.ref b] below meth c H1 locs1 cells slots (lw_Z below #[Value.ref b] s) (F0 m 1247 ls [])) : W p l e room_1 s m #[Value.ref b] below meth c H locs cells slots (lw_Z below #[Value.ref b] s) (F0 m 823 ls []) := by
  have hbA : ¬ s.heap.size ≤ b := Nat.not_le.mpr hbl
  obtain ⟨r, X1, M1, eX, eM, hI1⟩ := hT (xs (ix + 1).toNatClampNeg) (xs (ix + 2).toNatClampNeg) stX stM hInv
  refine lv_aload_n hx hb dL_law_823 rfl (lv_at hl 1 rfl) ?_
  refine lv_aload_n hx hb dL_law_824 rfl (lv_at hl 0 rfl) ?_
  refine lv_iload_n hx hb dL_law_825 rfl (lv_at hl 3 rfl) ?_
  refine lv_iconst (v := 1) hx hb dL_law_826 (by decide) ?_
  refine lv_iadd hx hb dL_law_827 ?_
  refine va_sld hx hb hX hbl hbA hS (lw_in hL hk6 (j := 1) (by decide) hix rfl rfl) dL_law_828 ?_
  refine lv_aload_n hx hb dL_law_829 rfl (lv_at hl 0 rfl) ?_
  refine lv_iload_n hx hb dL_law_830 rfl (lv_at hl 3 rfl) ?_
  refine lv_iconst (v := 2) hx hb dL_law_831 (by decide) ?_
  refine lv_iadd hx hb dL_law_832 ?_
  refine va_sld hx hb hX hbl hbA hS (lw_in hL hk6 (j := 2) (by decide) hix rfl rfl) dL_law_833 ?_
  refine lw_call (sp := spX) (b := bX) (n1 := 59) (A := fun q => s.heap.size ≤ q) (As := [vI (xs (ix + 1).toNatClampNeg), vI (xs (ix + 2).toNatClampNeg)]) (rest := []) (ci := 7) ⟨hx, hb, hml, hown, hts⟩ hKv hB (kX7_film l Z bX none 0 _ _ stX) eX (hN _ _ hInv).1 (by decide) rfl rfl (by decide) hkL_98 ⟨rfl, rfl⟩ hdL_X7_film ⟨Nat.le_of_ble_eq_true rfl, Nat.le_of_ble_eq_true rfl⟩ hcs hIX (fun q h => Nat.le_trans (by omega) h.1) (fun q h => h) hS hl.1 rfl rfl (Nat.le_of_ble_eq_true rfl) dL_law_834 (fun H1 locs1 hq0 hspX1 hS => ?_)
  have hIM := zI_stay hIM (fun q h1 h2 => by have h3 : bM ≤ q := h1.1; have h4 : q < bX + 59 := h2.2; omega) hq0
  refine lv_aload_n hx hb dL_law_837 rfl (lv_at hl 2 rfl) ?_
  refine lv_aload_n hx hb dL_law_838 rfl (lv_at hl 0 rfl) ?_
  refine lv_iload_n hx hb dL_law_839 rfl (lv_at hl 3 rfl) ?_
  refine lv_iconst (v := 1) hx hb dL_law_840 (by decide) ?_
  refine lv_iadd hx hb dL_law_841 ?_
  refine va_sld hx hb hX hbl hbA hS (lw_in hL hk6 (j := 1) (by decide) hix rfl rfl) dL_law_842 ?_
  refine lv_aload_n hx hb dL_law_843 rfl (lv_at hl 0 rfl) ?_
  refine lv_iload_n hx hb dL_law_844 rfl (lv_at hl 3 rfl) ?_
  refine lv_iconst (v := 2) hx hb dL_law_845 (by decide) ?_
  refine lv_iadd hx hb dL_law_846 ?_
  refine va_sld hx hb hX hbl hbA hS (lw_in hL hk6 (j := 2) (by decide) hix rfl rfl) dL_law_847 ?_
  refine lw_call (sp := spM) (b := bM) (n1 := 16) (A := fun q => s.heap.size ≤ q) (As := [vI (xs (ix + 1).toNatClampNeg), vI (xs (ix + 2).toNatClampNeg)]) (rest := [zval 0 (vI r)]) (ci := 8) ⟨hx, hb, hml, hown, hts⟩ hKv (zB_mono hB (by omega)) (kX8_film l Z bM none 0 _ _ stM) eM (hN _ _ hInv).2 (by decide) rfl rfl (by decide) hkL_101 ⟨rfl, rfl⟩ hdL_X8_film ⟨Nat.le_of_ble_eq_true rfl, Nat.le_of_ble_eq_true rfl⟩ hcs hIM (fun q h => Nat.le_trans (by omega) h.1) (fun q h => h) hS hl.1 rfl rfl (Nat.le_of_ble_eq_true rfl) dL_law_848 (fun H1 locs1 hq1 hspM1 hS => ?_)
  have hspX1 := zI_stay hspX1 (fun q h1 h2 => by have h3 : bM ≤ q := h2.1; have h4 : q < bX + 59 := h1.2; omega) hq1
  refine lv_icmp_eq (tgt := 1247) hx hb dL_law_851 (by decide) (fun _ => ?_) (fun h => absurd rfl h)
  exact hgo H1 locs1 X1 M1 hI1 hspX1 hspM1 hS
set_option maxRecDepth 100000 in
set_option maxHeartbeats 4000000 in
theorem law_drawn {p : Program} {e : Env} {s : State} {m : MethodId} {below : List Frame} {meth : Method} {c : Code} (l : Launch) {b L : Nat} {xs : Nat → Int32} (hx : p.tables.exec = Jvm.exec) (hb : c.code = code) (hr : meth.sig.returnType = ret) (hml : c.maxLocals = 4) (hown : s.vm.findClass RL = some m.cls) (hts : ∀ w ∈ wsL_law, w.before #[Value.ref b] s = true) (hX : va_X b L xs s s.heap) (hbl : b < s.heap.size) (hlocks : meth.locks = false) (hL : L ≤ 3072) {Z : zZ} {bX bM : Nat} (hbX : s.heap.size ≤ bX) (hbM : bM = bX + 59) (hKv : va_K Z.1 vwCl (zT Z.2.1) s) (hB : zB Z.2.2 bX s) {Inv : zS → zS → Prop} (hN : ∀ X M, Inv X M → X.1 = 59 ∧ M.1 = 16) (hT : ∀ (a0 : Int32) (a1 : Int32) (a2 : Int32), TM2 Inv (fun st => fX7_drawn 0 a0 a1 a2 st) (fun st => fX8_drawn 0 a0 a1 a2 st)) {cells slots : Nat} (hcs : cells ≤ room_1.cells ∧ slots ≤ room_1.slots) {k : Nat} {ix : Int32} (hix : ix = nI k) (hk6 : k + 6 ≤ L) {stX stM : zS} (hInv : Inv stX stM) {H : Heap} {locs : List Loc} {ls : Array Slot} (hIX : zI Z spX bX none (zA bX 59) stX H) (hIM : zI Z spM bM none (zA bM 16) stM H) (hS : va_S (fun q => s.heap.size ≤ q) s.heap H locs) (hl : lv_has ls 4 [(0, .ref b), (1, .ref bX), (2, .ref bM), (3, .int ix)]) (hgo : ∀ (H1 : Heap) (locs1 : List Loc) (X1 M1 : zS), Inv X1 M1 → zI Z spX bX none (zA bX 59) X1 H1 → zI Z spM bM none (zA bM 16) M1 H1 → va_S (fun q => s.heap.size ≤ q) s.heap H1 locs1 → W p l e room_1 s m #[Value.ref b] below meth c H1 locs1 cells slots (lw_Z below #[Value.ref b] s) (F0 m 1247 ls [])) : W p l e room_1 s m #[Value.ref b] below meth c H locs cells slots (lw_Z below #[Value.ref b] s) (F0 m 856 ls []) := by
  have hbA : ¬ s.heap.size ≤ b := Nat.not_le.mpr hbl
  obtain ⟨r, X1, M1, eX, eM, hI1⟩ := hT (xs (ix + 1).toNatClampNeg) (xs (ix + 2).toNatClampNeg) (xs (ix + 3).toNatClampNeg) stX stM hInv
  refine lv_aload_n hx hb dL_law_856 rfl (lv_at hl 1 rfl) ?_
  refine lv_aload_n hx hb dL_law_857 rfl (lv_at hl 0 rfl) ?_
  refine lv_iload_n hx hb dL_law_858 rfl (lv_at hl 3 rfl) ?_
  refine lv_iconst (v := 1) hx hb dL_law_859 (by decide) ?_
  refine lv_iadd hx hb dL_law_860 ?_
  refine va_sld hx hb hX hbl hbA hS (lw_in hL hk6 (j := 1) (by decide) hix rfl rfl) dL_law_861 ?_
  refine lv_aload_n hx hb dL_law_862 rfl (lv_at hl 0 rfl) ?_
  refine lv_iload_n hx hb dL_law_863 rfl (lv_at hl 3 rfl) ?_
  refine lv_iconst (v := 2) hx hb dL_law_864 (by decide) ?_
  refine lv_iadd hx hb dL_law_865 ?_
  refine va_sld hx hb hX hbl hbA hS (lw_in hL hk6 (j := 2) (by decide) hix rfl rfl) dL_law_866 ?_
  refine lv_aload_n hx hb dL_law_867 rfl (lv_at hl 0 rfl) ?_
  refine lv_iload_n hx hb dL_law_868 rfl (lv_at hl 3 rfl) ?_
  refine lv_iconst (v := 3) hx hb dL_law_869 (by decide) ?_
  refine lv_iadd hx hb dL_law_870 ?_
  refine va_sld hx hb hX hbl hbA hS (lw_in hL hk6 (j := 3) (by decide) hix rfl rfl) dL_law_871 ?_
  refine lw_call (sp := spX) (b := bX) (n1 := 59) (A := fun q => s.heap.size ≤ q) (As := [vI (xs (ix + 1).toNatClampNeg), vI (xs (ix + 2).toNatClampNeg), vI (xs (ix + 3).toNatClampNeg)]) (rest := []) (ci := 7) ⟨hx, hb, hml, hown, hts⟩ hKv hB (kX7_drawn l Z bX none 0 _ _ _ stX) eX (hN _ _ hInv).1 (by decide) rfl rfl (by decide) hkL_102 ⟨rfl, rfl⟩ hdL_X7_drawn ⟨Nat.le_of_ble_eq_true rfl, Nat.le_of_ble_eq_true rfl⟩ hcs hIX (fun q h => Nat.le_trans (by omega) h.1) (fun q h => h) hS hl.1 rfl rfl (Nat.le_of_ble_eq_true rfl) dL_law_872 (fun H1 locs1 hq0 hspX1 hS => ?_)
  have hIM := zI_stay hIM (fun q h1 h2 => by have h3 : bM ≤ q := h1.1; have h4 : q < bX + 59 := h2.2; omega) hq0
  refine lv_aload_n hx hb dL_law_875 rfl (lv_at hl 2 rfl) ?_
  refine lv_aload_n hx hb dL_law_876 rfl (lv_at hl 0 rfl) ?_
  refine lv_iload_n hx hb dL_law_877 rfl (lv_at hl 3 rfl) ?_
  refine lv_iconst (v := 1) hx hb dL_law_878 (by decide) ?_
  refine lv_iadd hx hb dL_law_879 ?_
  refine va_sld hx hb hX hbl hbA hS (lw_in hL hk6 (j := 1) (by decide) hix rfl rfl) dL_law_880 ?_
  refine lv_aload_n hx hb dL_law_881 rfl (lv_at hl 0 rfl) ?_
  refine lv_iload_n hx hb dL_law_882 rfl (lv_at hl 3 rfl) ?_
  refine lv_iconst (v := 2) hx hb dL_law_883 (by decide) ?_
  refine lv_iadd hx hb dL_law_884 ?_
  refine va_sld hx hb hX hbl hbA hS (lw_in hL hk6 (j := 2) (by decide) hix rfl rfl) dL_law_885 ?_
  refine lv_aload_n hx hb dL_law_886 rfl (lv_at hl 0 rfl) ?_
  refine lv_iload_n hx hb dL_law_887 rfl (lv_at hl 3 rfl) ?_
  refine lv_iconst (v := 3) hx hb dL_law_888 (by decide) ?_
  refine lv_iadd hx hb dL_law_889 ?_
  refine va_sld hx hb hX hbl hbA hS (lw_in hL hk6 (j := 3) (by decide) hix rfl rfl) dL_law_890 ?_
  refine lw_call (sp := spM) (b := bM) (n1 := 16) (A := fun q => s.heap.size ≤ q) (As := [vI (xs (ix + 1).toNatClampNeg), vI (xs (ix + 2).toNatClampNeg), vI (xs (ix + 3).toNatClampNeg)]) (rest := [zval 0 (vI r)]) (ci := 8) ⟨hx, hb, hml, hown, hts⟩ hKv (zB_mono hB (by omega)) (kX8_drawn l Z bM none 0 _ _ _ stM) eM (hN _ _ hInv).2 (by decide) rfl rfl (by decide) hkL_105 ⟨rfl, rfl⟩ hdL_X8_drawn ⟨Nat.le_of_ble_eq_true rfl, Nat.le_of_ble_eq_true rfl⟩ hcs hIM (fun q h => Nat.le_trans (by omega) h.1) (fun q h => h) hS hl.1 rfl rfl (Nat.le_of_ble_eq_true rfl) dL_law_891 (fun H1 locs1 hq1 hspM1 hS => ?_)
  have hspX1 := zI_stay hspX1 (fun q h1 h2 => by have h3 : bM ≤ q := h2.1; have h4 : q < bX + 59 := h1.2; omega) hq1
  refine lv_icmp_eq (tgt := 1247) hx hb dL_law_894 (by decide) (fun _ => ?_) (fun h => absurd rfl h)
  exact hgo H1 locs1 X1 M1 hI1 hspX1 hspM1 hS
set_option maxRecDepth 100000 in
set_option maxHeartbeats 4000000 in
theorem law_chance {p : Program} {e : Env} {s : State} {m : MethodId} {below : List Frame} {meth : Method} {c : Code} (l : Launch) {b L : Nat} {xs : Nat → Int32} (hx : p.tables.exec = Jvm.exec) (hb : c.code = code) (hr : meth.sig.returnType = ret) (hml : c.maxLocals = 4) (hown : s.vm.findClass RL = some m.cls) (hts : ∀ w ∈ wsL_law, w.before #[Value.ref b] s = true) (hX : va_X b L xs s s.heap) (hbl : b < s.heap.size) (hlocks : meth.locks = false) (hL : L ≤ 3072) {Z : zZ} {bX bM : Nat} (hbX : s.heap.size ≤ bX) (hbM : bM = bX + 59) (hKv : va_K Z.1 vwCl (zT Z.2.1) s) (hB : zB Z.2.2 bX s) {Inv : zS → zS → Prop} (hN : ∀ X M, Inv X M → X.1 = 59 ∧ M.1 = 16) (hT : ∀ (a0 : Int32) (a1 : Int32) (a2 : Int32) (a3 : Int32) (a4 : Int32), TM2 Inv (fun st => fX7_chance 0 a0 a1 a2 a3 a4 st) (fun st => fX8_chance 0 a0 a1 a2 a3 a4 st)) {cells slots : Nat} (hcs : cells ≤ room_1.cells ∧ slots ≤ room_1.slots) {k : Nat} {ix : Int32} (hix : ix = nI k) (hk6 : k + 6 ≤ L) {stX stM : zS} (hInv : Inv stX stM) {H : Heap} {locs : List Loc} {ls : Array Slot} (hIX : zI Z spX bX none (zA bX 59) stX H) (hIM : zI Z spM bM none (zA bM 16) stM H) (hS : va_S (fun q => s.heap.size ≤ q) s.heap H locs) (hl : lv_has ls 4 [(0, .ref b), (1, .ref bX), (2, .ref bM), (3, .int ix)]) (hgo : ∀ (H1 : Heap) (locs1 : List Loc) (X1 M1 : zS), Inv X1 M1 → zI Z spX bX none (zA bX 59) X1 H1 → zI Z spM bM none (zA bM 16) M1 H1 → va_S (fun q => s.heap.size ≤ q) s.heap H1 locs1 → W p l e room_1 s m #[Value.ref b] below meth c H1 locs1 cells slots (lw_Z below #[Value.ref b] s) (F0 m 1247 ls [])) : W p l e room_1 s m #[Value.ref b] below meth c H locs cells slots (lw_Z below #[Value.ref b] s) (F0 m 899 ls []) := by
  have hbA : ¬ s.heap.size ≤ b := Nat.not_le.mpr hbl
  obtain ⟨r, X1, M1, eX, eM, hI1⟩ := hT (xs (ix + 1).toNatClampNeg) (xs (ix + 2).toNatClampNeg) (xs (ix + 3).toNatClampNeg) (xs (ix + 4).toNatClampNeg) (xs (ix + 5).toNatClampNeg) stX stM hInv
  refine lv_aload_n hx hb dL_law_899 rfl (lv_at hl 1 rfl) ?_
  refine lv_aload_n hx hb dL_law_900 rfl (lv_at hl 0 rfl) ?_
  refine lv_iload_n hx hb dL_law_901 rfl (lv_at hl 3 rfl) ?_
  refine lv_iconst (v := 1) hx hb dL_law_902 (by decide) ?_
  refine lv_iadd hx hb dL_law_903 ?_
  refine va_sld hx hb hX hbl hbA hS (lw_in hL hk6 (j := 1) (by decide) hix rfl rfl) dL_law_904 ?_
  refine lv_aload_n hx hb dL_law_905 rfl (lv_at hl 0 rfl) ?_
  refine lv_iload_n hx hb dL_law_906 rfl (lv_at hl 3 rfl) ?_
  refine lv_iconst (v := 2) hx hb dL_law_907 (by decide) ?_
  refine lv_iadd hx hb dL_law_908 ?_
  refine va_sld hx hb hX hbl hbA hS (lw_in hL hk6 (j := 2) (by decide) hix rfl rfl) dL_law_909 ?_
  refine lv_aload_n hx hb dL_law_910 rfl (lv_at hl 0 rfl) ?_
  refine lv_iload_n hx hb dL_law_911 rfl (lv_at hl 3 rfl) ?_
  refine lv_iconst (v := 3) hx hb dL_law_912 (by decide) ?_
  refine lv_iadd hx hb dL_law_913 ?_
  refine va_sld hx hb hX hbl hbA hS (lw_in hL hk6 (j := 3) (by decide) hix rfl rfl) dL_law_914 ?_
  refine lv_aload_n hx hb dL_law_915 rfl (lv_at hl 0 rfl) ?_
  refine lv_iload_n hx hb dL_law_916 rfl (lv_at hl 3 rfl) ?_
  refine lv_iconst (v := 4) hx hb dL_law_917 (by decide) ?_
  refine lv_iadd hx hb dL_law_918 ?_
  refine va_sld hx hb hX hbl hbA hS (lw_in hL hk6 (j := 4) (by decide) hix rfl rfl) dL_law_919 ?_
  refine lv_aload_n hx hb dL_law_920 rfl (lv_at hl 0 rfl) ?_
  refine lv_iload_n hx hb dL_law_921 rfl (lv_at hl 3 rfl) ?_
  refine lv_iconst (v := 5) hx hb dL_law_922 (by decide) ?_
  refine lv_iadd hx hb dL_law_923 ?_
  refine va_sld hx hb hX hbl hbA hS (lw_in hL hk6 (j := 5) (by decide) hix rfl rfl) dL_law_924 ?_
  refine lw_call (sp := spX) (b := bX) (n1 := 59) (A := fun q => s.heap.size ≤ q) (As := [vI (xs (ix + 1).toNatClampNeg), vI (xs (ix + 2).toNatClampNeg), vI (xs (ix + 3).toNatClampNeg), vI (xs (ix + 4).toNatClampNeg), vI (xs (ix + 5).toNatClampNeg)]) (rest := []) (ci := 7) ⟨hx, hb, hml, hown, hts⟩ hKv hB (kX7_chance l Z bX none 0 _ _ _ _ _ stX) eX (hN _ _ hInv).1 (by decide) rfl rfl (by decide) hkL_106 ⟨rfl, rfl⟩ hdL_X7_chance ⟨Nat.le_of_ble_eq_true rfl, Nat.le_of_ble_eq_true rfl⟩ hcs hIX (fun q h => Nat.le_trans (by omega) h.1) (fun q h => h) hS hl.1 rfl rfl (Nat.le_of_ble_eq_true rfl) dL_law_925 (fun H1 locs1 hq0 hspX1 hS => ?_)
  have hIM := zI_stay hIM (fun q h1 h2 => by have h3 : bM ≤ q := h1.1; have h4 : q < bX + 59 := h2.2; omega) hq0
  refine lv_aload_n hx hb dL_law_928 rfl (lv_at hl 2 rfl) ?_
  refine lv_aload_n hx hb dL_law_929 rfl (lv_at hl 0 rfl) ?_
  refine lv_iload_n hx hb dL_law_930 rfl (lv_at hl 3 rfl) ?_
  refine lv_iconst (v := 1) hx hb dL_law_931 (by decide) ?_
  refine lv_iadd hx hb dL_law_932 ?_
  refine va_sld hx hb hX hbl hbA hS (lw_in hL hk6 (j := 1) (by decide) hix rfl rfl) dL_law_933 ?_
  refine lv_aload_n hx hb dL_law_934 rfl (lv_at hl 0 rfl) ?_
  refine lv_iload_n hx hb dL_law_935 rfl (lv_at hl 3 rfl) ?_
  refine lv_iconst (v := 2) hx hb dL_law_936 (by decide) ?_
  refine lv_iadd hx hb dL_law_937 ?_
  refine va_sld hx hb hX hbl hbA hS (lw_in hL hk6 (j := 2) (by decide) hix rfl rfl) dL_law_938 ?_
  refine lv_aload_n hx hb dL_law_939 rfl (lv_at hl 0 rfl) ?_
  refine lv_iload_n hx hb dL_law_940 rfl (lv_at hl 3 rfl) ?_
  refine lv_iconst (v := 3) hx hb dL_law_941 (by decide) ?_
  refine lv_iadd hx hb dL_law_942 ?_
  refine va_sld hx hb hX hbl hbA hS (lw_in hL hk6 (j := 3) (by decide) hix rfl rfl) dL_law_943 ?_
  refine lv_aload_n hx hb dL_law_944 rfl (lv_at hl 0 rfl) ?_
  refine lv_iload_n hx hb dL_law_945 rfl (lv_at hl 3 rfl) ?_
  refine lv_iconst (v := 4) hx hb dL_law_946 (by decide) ?_
  refine lv_iadd hx hb dL_law_947 ?_
  refine va_sld hx hb hX hbl hbA hS (lw_in hL hk6 (j := 4) (by decide) hix rfl rfl) dL_law_948 ?_
  refine lv_aload_n hx hb dL_law_949 rfl (lv_at hl 0 rfl) ?_
  refine lv_iload_n hx hb dL_law_950 rfl (lv_at hl 3 rfl) ?_
  refine lv_iconst (v := 5) hx hb dL_law_951 (by decide) ?_
  refine lv_iadd hx hb dL_law_952 ?_
  refine va_sld hx hb hX hbl hbA hS (lw_in hL hk6 (j := 5) (by decide) hix rfl rfl) dL_law_953 ?_
  refine lw_call (sp := spM) (b := bM) (n1 := 16) (A := fun q => s.heap.size ≤ q) (As := [vI (xs (ix + 1).toNatClampNeg), vI (xs (ix + 2).toNatClampNeg), vI (xs (ix + 3).toNatClampNeg), vI (xs (ix + 4).toNatClampNeg), vI (xs (ix + 5).toNatClampNeg)]) (rest := [zval 0 (vL r)]) (ci := 8) ⟨hx, hb, hml, hown, hts⟩ hKv (zB_mono hB (by omega)) (kX8_chance l Z bM none 0 _ _ _ _ _ stM) eM (hN _ _ hInv).2 (by decide) rfl rfl (by decide) hkL_110 ⟨rfl, rfl⟩ hdL_X8_chance ⟨Nat.le_of_ble_eq_true rfl, Nat.le_of_ble_eq_true rfl⟩ hcs hIM (fun q h => Nat.le_trans (by omega) h.1) (fun q h => h) hS hl.1 rfl rfl (Nat.le_of_ble_eq_true rfl) dL_law_954 (fun H1 locs1 hq1 hspM1 hS => ?_)
  have hspX1 := zI_stay hspX1 (fun q h1 h2 => by have h3 : bM ≤ q := h2.1; have h4 : q < bX + 59 := h1.2; omega) hq1
  refine W.lcmp hx hb dL_law_957 ?_
  refine lv_if_eq (tgt := 1247) hx hb dL_law_958 (by decide) (fun _ => ?_) (fun h => absurd (lg_cmp_self r) h)
  exact hgo H1 locs1 X1 M1 hI1 hspX1 hspM1 hS
set_option maxRecDepth 100000 in
set_option maxHeartbeats 4000000 in
theorem law_image {p : Program} {e : Env} {s : State} {m : MethodId} {below : List Frame} {meth : Method} {c : Code} (l : Launch) {b L : Nat} {xs : Nat → Int32} (hx : p.tables.exec = Jvm.exec) (hb : c.code = code) (hr : meth.sig.returnType = ret) (hml : c.maxLocals = 4) (hown : s.vm.findClass RL = some m.cls) (hts : ∀ w ∈ wsL_law, w.before #[Value.ref b] s = true) (hX : va_X b L xs s s.heap) (hbl : b < s.heap.size) (hlocks : meth.locks = false) (hL : L ≤ 3072) {Z : zZ} {bX bM : Nat} (hbX : s.heap.size ≤ bX) (hbM : bM = bX + 59) (hKv : va_K Z.1 vwCl (zT Z.2.1) s) (hB : zB Z.2.2 bX s) {Inv : zS → zS → Prop} (hN : ∀ X M, Inv X M → X.1 = 59 ∧ M.1 = 16) (hT : TM2 Inv (fun st => fX7_image 0 st) (fun st => fX8_image 0 st)) {cells slots : Nat} (hcs : cells ≤ room_1.cells ∧ slots ≤ room_1.slots) {k : Nat} {ix : Int32} (hix : ix = nI k) (hk6 : k + 6 ≤ L) {stX stM : zS} (hInv : Inv stX stM) {H : Heap} {locs : List Loc} {ls : Array Slot} (hIX : zI Z spX bX none (zA bX 59) stX H) (hIM : zI Z spM bM none (zA bM 16) stM H) (hS : va_S (fun q => s.heap.size ≤ q) s.heap H locs) (hl : lv_has ls 4 [(0, .ref b), (1, .ref bX), (2, .ref bM), (3, .int ix)]) (hgo : ∀ (H1 : Heap) (locs1 : List Loc) (X1 M1 : zS), Inv X1 M1 → zI Z spX bX none (zA bX 59) X1 H1 → zI Z spM bM none (zA bM 16) M1 H1 → va_S (fun q => s.heap.size ≤ q) s.heap H1 locs1 → W p l e room_1 s m #[Value.ref b] below meth c H1 locs1 cells slots (lw_Z below #[Value.ref b] s) (F0 m 1247 ls [])) : W p l e room_1 s m #[Value.ref b] below meth c H locs cells slots (lw_Z below #[Value.ref b] s) (F0 m 963 ls []) := by
  have hbA : ¬ s.heap.size ≤ b := Nat.not_le.mpr hbl
  obtain ⟨r, X1, M1, eX, eM, hI1⟩ := hT stX stM hInv
  refine lv_aload_n hx hb dL_law_963 rfl (lv_at hl 1 rfl) ?_
  refine lw_call (sp := spX) (b := bX) (n1 := 59) (A := fun q => s.heap.size ≤ q) (As := []) (rest := []) (ci := 7) ⟨hx, hb, hml, hown, hts⟩ hKv hB (kX7_image l Z bX none 0 stX) eX (hN _ _ hInv).1 (by decide) rfl rfl (by decide) hkL_111 ⟨rfl, rfl⟩ hdL_X7_image ⟨Nat.le_of_ble_eq_true rfl, Nat.le_of_ble_eq_true rfl⟩ hcs hIX (fun q h => Nat.le_trans (by omega) h.1) (fun q h => h) hS hl.1 rfl rfl (Nat.le_of_ble_eq_true rfl) dL_law_964 (fun H1 locs1 hq0 hspX1 hS => ?_)
  have hIM := zI_stay hIM (fun q h1 h2 => by have h3 : bM ≤ q := h1.1; have h4 : q < bX + 59 := h2.2; omega) hq0
  refine lv_aload_n hx hb dL_law_967 rfl (lv_at hl 2 rfl) ?_
  refine lw_call (sp := spM) (b := bM) (n1 := 16) (A := fun q => s.heap.size ≤ q) (As := []) (rest := [zval 0 (vI r)]) (ci := 8) ⟨hx, hb, hml, hown, hts⟩ hKv (zB_mono hB (by omega)) (kX8_image l Z bM none 0 stM) eM (hN _ _ hInv).2 (by decide) rfl rfl (by decide) hkL_114 ⟨rfl, rfl⟩ hdL_X8_image ⟨Nat.le_of_ble_eq_true rfl, Nat.le_of_ble_eq_true rfl⟩ hcs hIM (fun q h => Nat.le_trans (by omega) h.1) (fun q h => h) hS hl.1 rfl rfl (Nat.le_of_ble_eq_true rfl) dL_law_968 (fun H1 locs1 hq1 hspM1 hS => ?_)
  have hspX1 := zI_stay hspX1 (fun q h1 h2 => by have h3 : bM ≤ q := h2.1; have h4 : q < bX + 59 := h1.2; omega) hq1
  refine lv_icmp_eq (tgt := 1247) hx hb dL_law_971 (by decide) (fun _ => ?_) (fun h => absurd rfl h)
  exact hgo H1 locs1 X1 M1 hI1 hspX1 hspM1 hS
set_option maxRecDepth 100000 in
set_option maxHeartbeats 4000000 in
theorem law_back {p : Program} {e : Env} {s : State} {m : MethodId} {below : List Frame} {meth : Method} {c : Code} (l : Launch) {b L : Nat} {xs : Nat → Int32} (hx : p.tables.exec = Jvm.exec) (hb : c.code = code) (hr : meth.sig.returnType = ret) (hml : c.maxLocals = 4) (hown : s.vm.findClass RL = some m.cls) (hts : ∀ w ∈ wsL_law, w.before #[Value.ref b] s = true) (hX : va_X b L xs s s.heap) (hbl : b < s.heap.size) (hlocks : meth.locks = false) (hL : L ≤ 3072) {Z : zZ} {bX bM : Nat} (hbX : s.heap.size ≤ bX) (hbM : bM = bX + 59) (hKv : va_K Z.1 vwCl (zT Z.2.1) s) (hB : zB Z.2.2 bX s) {Inv : zS → zS → Prop} (hN : ∀ X M, Inv X M → X.1 = 59 ∧ M.1 = 16) (hT : TM2 Inv (fun st => fX7_back 0 st) (fun st => fX8_back 0 st)) {cells slots : Nat} (hcs : cells ≤ room_1.cells ∧ slots ≤ room_1.slots) {k : Nat} {ix : Int32} (hix : ix = nI k) (hk6 : k + 6 ≤ L) {stX stM : zS} (hInv : Inv stX stM) {H : Heap} {locs : List Loc} {ls : Array Slot} (hIX : zI Z spX bX none (zA bX 59) stX H) (hIM : zI Z spM bM none (zA bM 16) stM H) (hS : va_S (fun q => s.heap.size ≤ q) s.heap H locs) (hl : lv_has ls 4 [(0, .ref b), (1, .ref bX), (2, .ref bM), (3, .int ix)]) (hgo : ∀ (H1 : Heap) (locs1 : List Loc) (X1 M1 : zS), Inv X1 M1 → zI Z spX bX none (zA bX 59) X1 H1 → zI Z spM bM none (zA bM 16) M1 H1 → va_S (fun q => s.heap.size ≤ q) s.heap H1 locs1 → W p l e room_1 s m #[Value.ref b] below meth c H1 locs1 cells slots (lw_Z below #[Value.ref b] s) (F0 m 1247 ls [])) : W p l e room_1 s m #[Value.ref b] below meth c H locs cells slots (lw_Z below #[Value.ref b] s) (F0 m 976 ls []) := by
  have hbA : ¬ s.heap.size ≤ b := Nat.not_le.mpr hbl
  obtain ⟨r, X1, M1, eX, eM, hI1⟩ := hT stX stM hInv
  refine lv_aload_n hx hb dL_law_976 rfl (lv_at hl 1 rfl) ?_
  refine lw_call (sp := spX) (b := bX) (n1 := 59) (A := fun q => s.heap.size ≤ q) (As := []) (rest := []) (ci := 7) ⟨hx, hb, hml, hown, hts⟩ hKv hB (kX7_back l Z bX none 0 stX) eX (hN _ _ hInv).1 (by decide) rfl rfl (by decide) hkL_115 ⟨rfl, rfl⟩ hdL_X7_back ⟨Nat.le_of_ble_eq_true rfl, Nat.le_of_ble_eq_true rfl⟩ hcs hIX (fun q h => Nat.le_trans (by omega) h.1) (fun q h => h) hS hl.1 rfl rfl (Nat.le_of_ble_eq_true rfl) dL_law_977 (fun H1 locs1 hq0 hspX1 hS => ?_)
  have hIM := zI_stay hIM (fun q h1 h2 => by have h3 : bM ≤ q := h1.1; have h4 : q < bX + 59 := h2.2; omega) hq0
  refine lv_aload_n hx hb dL_law_980 rfl (lv_at hl 2 rfl) ?_
  refine lw_call (sp := spM) (b := bM) (n1 := 16) (A := fun q => s.heap.size ≤ q) (As := []) (rest := [zval 0 (vI r)]) (ci := 8) ⟨hx, hb, hml, hown, hts⟩ hKv (zB_mono hB (by omega)) (kX8_back l Z bM none 0 stM) eM (hN _ _ hInv).2 (by decide) rfl rfl (by decide) hkL_118 ⟨rfl, rfl⟩ hdL_X8_back ⟨Nat.le_of_ble_eq_true rfl, Nat.le_of_ble_eq_true rfl⟩ hcs hIM (fun q h => Nat.le_trans (by omega) h.1) (fun q h => h) hS hl.1 rfl rfl (Nat.le_of_ble_eq_true rfl) dL_law_981 (fun H1 locs1 hq1 hspM1 hS => ?_)
  have hspX1 := zI_stay hspX1 (fun q h1 h2 => by have h3 : bM ≤ q := h2.1; have h4 : q < bX + 59 := h1.2; omega) hq1
  refine lv_icmp_eq (tgt := 1247) hx hb dL_law_984 (by decide) (fun _ => ?_) (fun h => absurd rfl h)
  exact hgo H1 locs1 X1 M1 hI1 hspX1 hspM1 hS
set_option maxRecDepth 100000 in
set_option maxHeartbeats 4000000 in
theorem law_count {p : Program} {e : Env} {s : State} {m : MethodId} {below : List Frame} {meth : Method} {c : Code} (l : Launch) {b L : Nat} {xs : Nat → Int32} (hx : p.tables.exec = Jvm.exec) (hb : c.code = code) (hr : meth.sig.returnType = ret) (hml : c.maxLocals = 4) (hown : s.vm.findClass RL = some m.cls) (hts : ∀ w ∈ wsL_law, w.before #[Value.ref b] s = true) (hX : va_X b L xs s s.heap) (hbl : b < s.heap.size) (hlocks : meth.locks = false) (hL : L ≤ 3072) {Z : zZ} {bX bM : Nat} (hbX : s.heap.size ≤ bX) (hbM : bM = bX + 59) (hKv : va_K Z.1 vwCl (zT Z.2.1) s) (hB : zB Z.2.2 bX s) {Inv : zS → zS → Prop} (hN : ∀ X M, Inv X M → X.1 = 59 ∧ M.1 = 16) (hT : ∀ (a0 : Int32), TM2 Inv (fun st => fX7_count 0 a0 st) (fun st => fX8_count 0 a0 st)) {cells slots : Nat} (hcs : cells ≤ room_1.cells ∧ slots ≤ room_1.slots) {k : Nat} {ix : Int32} (hix : ix = nI k) (hk6 : k + 6 ≤ L) {stX stM : zS} (hInv : Inv stX stM) {H : Heap} {locs : List Loc} {ls : Array Slot} (hIX : zI Z spX bX none (zA bX 59) stX H) (hIM : zI Z spM bM none (zA bM 16) stM H) (hS : va_S (fun q => s.heap.size ≤ q) s.heap H locs) (hl : lv_has ls 4 [(0, .ref b), (1, .ref bX), (2, .ref bM), (3, .int ix)]) (hgo : ∀ (H1 : Heap) (locs1 : List Loc) (X1 M1 : zS), Inv X1 M1 → zI Z spX bX none (zA bX 59) X1 H1 → zI Z spM bM none (zA bM 16) M1 H1 → va_S (fun q => s.heap.size ≤ q) s.heap H1 locs1 → W p l e room_1 s m #[Value.ref b] below meth c H1 locs1 cells slots (lw_Z below #[Value.ref b] s) (F0 m 1247 ls [])) : W p l e room_1 s m #[Value.ref b] below meth c H locs cells slots (lw_Z below #[Value.ref b] s) (F0 m 989 ls []) := by
  have hbA : ¬ s.heap.size ≤ b := Nat.not_le.mpr hbl
  obtain ⟨r, X1, M1, eX, eM, hI1⟩ := hT (xs (ix + 1).toNatClampNeg) stX stM hInv
  refine lv_aload_n hx hb dL_law_989 rfl (lv_at hl 1 rfl) ?_
  refine lv_aload_n hx hb dL_law_990 rfl (lv_at hl 0 rfl) ?_
  refine lv_iload_n hx hb dL_law_991 rfl (lv_at hl 3 rfl) ?_
  refine lv_iconst (v := 1) hx hb dL_law_992 (by decide) ?_
  refine lv_iadd hx hb dL_law_993 ?_
  refine va_sld hx hb hX hbl hbA hS (lw_in hL hk6 (j := 1) (by decide) hix rfl rfl) dL_law_994 ?_
  refine lw_call (sp := spX) (b := bX) (n1 := 59) (A := fun q => s.heap.size ≤ q) (As := [vI (xs (ix + 1).toNatClampNeg)]) (rest := []) (ci := 7) ⟨hx, hb, hml, hown, hts⟩ hKv hB (kX7_count l Z bX none 0 _ stX) eX (hN _ _ hInv).1 (by decide) rfl rfl (by decide) hkL_119 ⟨rfl, rfl⟩ hdL_X7_count ⟨Nat.le_of_ble_eq_true rfl, Nat.le_of_ble_eq_true rfl⟩ hcs hIX (fun q h => Nat.le_trans (by omega) h.1) (fun q h => h) hS hl.1 rfl rfl (Nat.le_of_ble_eq_true rfl) dL_law_995 (fun H1 locs1 hq0 hspX1 hS => ?_)
  have hIM := zI_stay hIM (fun q h1 h2 => by have h3 : bM ≤ q := h1.1; have h4 : q < bX + 59 := h2.2; omega) hq0
  refine lv_aload_n hx hb dL_law_998 rfl (lv_at hl 2 rfl) ?_
  refine lv_aload_n hx hb dL_law_999 rfl (lv_at hl 0 rfl) ?_
  refine lv_iload_n hx hb dL_law_1000 rfl (lv_at hl 3 rfl) ?_
  refine lv_iconst (v := 1) hx hb dL_law_1001 (by decide) ?_
  refine lv_iadd hx hb dL_law_1002 ?_
  refine va_sld hx hb hX hbl hbA hS (lw_in hL hk6 (j := 1) (by decide) hix rfl rfl) dL_law_1003 ?_
  refine lw_call (sp := spM) (b := bM) (n1 := 16) (A := fun q => s.heap.size ≤ q) (As := [vI (xs (ix + 1).toNatClampNeg)]) (rest := [zval 0 (vI r)]) (ci := 8) ⟨hx, hb, hml, hown, hts⟩ hKv (zB_mono hB (by omega)) (kX8_count l Z bM none 0 _ stM) eM (hN _ _ hInv).2 (by decide) rfl rfl (by decide) hkL_122 ⟨rfl, rfl⟩ hdL_X8_count ⟨Nat.le_of_ble_eq_true rfl, Nat.le_of_ble_eq_true rfl⟩ hcs hIM (fun q h => Nat.le_trans (by omega) h.1) (fun q h => h) hS hl.1 rfl rfl (Nat.le_of_ble_eq_true rfl) dL_law_1004 (fun H1 locs1 hq1 hspM1 hS => ?_)
  have hspX1 := zI_stay hspX1 (fun q h1 h2 => by have h3 : bM ≤ q := h2.1; have h4 : q < bX + 59 := h1.2; omega) hq1
  refine lv_icmp_eq (tgt := 1247) hx hb dL_law_1007 (by decide) (fun _ => ?_) (fun h => absurd rfl h)
  exact hgo H1 locs1 X1 M1 hI1 hspX1 hspM1 hS
set_option maxRecDepth 100000 in
set_option maxHeartbeats 4000000 in
theorem law_sheet {p : Program} {e : Env} {s : State} {m : MethodId} {below : List Frame} {meth : Method} {c : Code} (l : Launch) {b L : Nat} {xs : Nat → Int32} (hx : p.tables.exec = Jvm.exec) (hb : c.code = code) (hr : meth.sig.returnType = ret) (hml : c.maxLocals = 4) (hown : s.vm.findClass RL = some m.cls) (hts : ∀ w ∈ wsL_law, w.before #[Value.ref b] s = true) (hX : va_X b L xs s s.heap) (hbl : b < s.heap.size) (hlocks : meth.locks = false) (hL : L ≤ 3072) {Z : zZ} {bX bM : Nat} (hbX : s.heap.size ≤ bX) (hbM : bM = bX + 59) (hKv : va_K Z.1 vwCl (zT Z.2.1) s) (hB : zB Z.2.2 bX s) {Inv : zS → zS → Prop} (hN : ∀ X M, Inv X M → X.1 = 59 ∧ M.1 = 16) (hT : ∀ (a0 : Int32) (a1 : Int32) (a2 : Int32), TM2 Inv (fun st => fX7_sheet 0 a0 a1 a2 st) (fun st => fX8_sheet 0 a0 a1 a2 st)) {cells slots : Nat} (hcs : cells ≤ room_1.cells ∧ slots ≤ room_1.slots) {k : Nat} {ix : Int32} (hix : ix = nI k) (hk6 : k + 6 ≤ L) {stX stM : zS} (hInv : Inv stX stM) {H : Heap} {locs : List Loc} {ls : Array Slot} (hIX : zI Z spX bX none (zA bX 59) stX H) (hIM : zI Z spM bM none (zA bM 16) stM H) (hS : va_S (fun q => s.heap.size ≤ q) s.heap H locs) (hl : lv_has ls 4 [(0, .ref b), (1, .ref bX), (2, .ref bM), (3, .int ix)]) (hgo : ∀ (H1 : Heap) (locs1 : List Loc) (X1 M1 : zS), Inv X1 M1 → zI Z spX bX none (zA bX 59) X1 H1 → zI Z spM bM none (zA bM 16) M1 H1 → va_S (fun q => s.heap.size ≤ q) s.heap H1 locs1 → W p l e room_1 s m #[Value.ref b] below meth c H1 locs1 cells slots (lw_Z below #[Value.ref b] s) (F0 m 1247 ls [])) : W p l e room_1 s m #[Value.ref b] below meth c H locs cells slots (lw_Z below #[Value.ref b] s) (F0 m 1012 ls []) := by
  have hbA : ¬ s.heap.size ≤ b := Nat.not_le.mpr hbl
  obtain ⟨r, X1, M1, eX, eM, hI1⟩ := hT (xs (ix + 1).toNatClampNeg) (xs (ix + 2).toNatClampNeg) (xs (ix + 3).toNatClampNeg) stX stM hInv
  refine lv_aload_n hx hb dL_law_1012 rfl (lv_at hl 1 rfl) ?_
  refine lv_aload_n hx hb dL_law_1013 rfl (lv_at hl 0 rfl) ?_
  refine lv_iload_n hx hb dL_law_1014 rfl (lv_at hl 3 rfl) ?_
  refine lv_iconst (v := 1) hx hb dL_law_1015 (by decide) ?_
  refine lv_iadd hx hb dL_law_1016 ?_
  refine va_sld hx hb hX hbl hbA hS (lw_in hL hk6 (j := 1) (by decide) hix rfl rfl) dL_law_1017 ?_
  refine lv_aload_n hx hb dL_law_1018 rfl (lv_at hl 0 rfl) ?_
  refine lv_iload_n hx hb dL_law_1019 rfl (lv_at hl 3 rfl) ?_
  refine lv_iconst (v := 2) hx hb dL_law_1020 (by decide) ?_
  refine lv_iadd hx hb dL_law_1021 ?_
  refine va_sld hx hb hX hbl hbA hS (lw_in hL hk6 (j := 2) (by decide) hix rfl rfl) dL_law_1022 ?_
  refine lv_aload_n hx hb dL_law_1023 rfl (lv_at hl 0 rfl) ?_
  refine lv_iload_n hx hb dL_law_1024 rfl (lv_at hl 3 rfl) ?_
  refine lv_iconst (v := 3) hx hb dL_law_1025 (by decide) ?_
  refine lv_iadd hx hb dL_law_1026 ?_
  refine va_sld hx hb hX hbl hbA hS (lw_in hL hk6 (j := 3) (by decide) hix rfl rfl) dL_law_1027 ?_
  refine lw_call (sp := spX) (b := bX) (n1 := 59) (A := fun q => s.heap.size ≤ q) (As := [vI (xs (ix + 1).toNatClampNeg), vI (xs (ix + 2).toNatClampNeg), vI (xs (ix + 3).toNatClampNeg)]) (rest := []) (ci := 7) ⟨hx, hb, hml, hown, hts⟩ hKv hB (kX7_sheet l Z bX none 0 _ _ _ stX) eX (hN _ _ hInv).1 (by decide) rfl rfl (by decide) hkL_123 ⟨rfl, rfl⟩ hdL_X7_sheet ⟨Nat.le_of_ble_eq_true rfl, Nat.le_of_ble_eq_true rfl⟩ hcs hIX (fun q h => Nat.le_trans (by omega) h.1) (fun q h => h) hS hl.1 rfl rfl (Nat.le_of_ble_eq_true rfl) dL_law_1028 (fun H1 locs1 hq0 hspX1 hS => ?_)
  have hIM := zI_stay hIM (fun q h1 h2 => by have h3 : bM ≤ q := h1.1; have h4 : q < bX + 59 := h2.2; omega) hq0
  refine lv_aload_n hx hb dL_law_1031 rfl (lv_at hl 2 rfl) ?_
  refine lv_aload_n hx hb dL_law_1032 rfl (lv_at hl 0 rfl) ?_
  refine lv_iload_n hx hb dL_law_1033 rfl (lv_at hl 3 rfl) ?_
  refine lv_iconst (v := 1) hx hb dL_law_1034 (by decide) ?_
  refine lv_iadd hx hb dL_law_1035 ?_
  refine va_sld hx hb hX hbl hbA hS (lw_in hL hk6 (j := 1) (by decide) hix rfl rfl) dL_law_1036 ?_
  refine lv_aload_n hx hb dL_law_1037 rfl (lv_at hl 0 rfl) ?_
  refine lv_iload_n hx hb dL_law_1038 rfl (lv_at hl 3 rfl) ?_
  refine lv_iconst (v := 2) hx hb dL_law_1039 (by decide) ?_
  refine lv_iadd hx hb dL_law_1040 ?_
  refine va_sld hx hb hX hbl hbA hS (lw_in hL hk6 (j := 2) (by decide) hix rfl rfl) dL_law_1041 ?_
  refine lv_aload_n hx hb dL_law_1042 rfl (lv_at hl 0 rfl) ?_
  refine lv_iload_n hx hb dL_law_1043 rfl (lv_at hl 3 rfl) ?_
  refine lv_iconst (v := 3) hx hb dL_law_1044 (by decide) ?_
  refine lv_iadd hx hb dL_law_1045 ?_
  refine va_sld hx hb hX hbl hbA hS (lw_in hL hk6 (j := 3) (by decide) hix rfl rfl) dL_law_1046 ?_
  refine lw_call (sp := spM) (b := bM) (n1 := 16) (A := fun q => s.heap.size ≤ q) (As := [vI (xs (ix + 1).toNatClampNeg), vI (xs (ix + 2).toNatClampNeg), vI (xs (ix + 3).toNatClampNeg)]) (rest := [zval 0 (vI r)]) (ci := 8) ⟨hx, hb, hml, hown, hts⟩ hKv (zB_mono hB (by omega)) (kX8_sheet l Z bM none 0 _ _ _ stM) eM (hN _ _ hInv).2 (by decide) rfl rfl (by decide) hkL_126 ⟨rfl, rfl⟩ hdL_X8_sheet ⟨Nat.le_of_ble_eq_true rfl, Nat.le_of_ble_eq_true rfl⟩ hcs hIM (fun q h => Nat.le_trans (by omega) h.1) (fun q h => h) hS hl.1 rfl rfl (Nat.le_of_ble_eq_true rfl) dL_law_1047 (fun H1 locs1 hq1 hspM1 hS => ?_)
  have hspX1 := zI_stay hspX1 (fun q h1 h2 => by have h3 : bM ≤ q := h2.1; have h4 : q < bX + 59 := h1.2; omega) hq1
  refine lv_icmp_eq (tgt := 1247) hx hb dL_law_1050 (by decide) (fun _ => ?_) (fun h => absurd rfl h)
  exact hgo H1 locs1 X1 M1 hI1 hspX1 hspM1 hS
set_option maxRecDepth 100000 in
set_option maxHeartbeats 4000000 in
theorem law_cell {p : Program} {e : Env} {s : State} {m : MethodId} {below : List Frame} {meth : Method} {c : Code} (l : Launch) {b L : Nat} {xs : Nat → Int32} (hx : p.tables.exec = Jvm.exec) (hb : c.code = code) (hr : meth.sig.returnType = ret) (hml : c.maxLocals = 4) (hown : s.vm.findClass RL = some m.cls) (hts : ∀ w ∈ wsL_law, w.before #[Value.ref b] s = true) (hX : va_X b L xs s s.heap) (hbl : b < s.heap.size) (hlocks : meth.locks = false) (hL : L ≤ 3072) {Z : zZ} {bX bM : Nat} (hbX : s.heap.size ≤ bX) (hbM : bM = bX + 59) (hKv : va_K Z.1 vwCl (zT Z.2.1) s) (hB : zB Z.2.2 bX s) {Inv : zS → zS → Prop} (hN : ∀ X M, Inv X M → X.1 = 59 ∧ M.1 = 16) (hT : ∀ (a0 : Int32) (a1 : Int32) (a2 : Int32), TM2 Inv (fun st => fX7_cell 0 a0 a1 a2 st) (fun st => fX8_cell 0 a0 a1 a2 st)) {cells slots : Nat} (hcs : cells ≤ room_1.cells ∧ slots ≤ room_1.slots) {k : Nat} {ix : Int32} (hix : ix = nI k) (hk6 : k + 6 ≤ L) {stX stM : zS} (hInv : Inv stX stM) {H : Heap} {locs : List Loc} {ls : Array Slot} (hIX : zI Z spX bX none (zA bX 59) stX H) (hIM : zI Z spM bM none (zA bM 16) stM H) (hS : va_S (fun q => s.heap.size ≤ q) s.heap H locs) (hl : lv_has ls 4 [(0, .ref b), (1, .ref bX), (2, .ref bM), (3, .int ix)]) (hgo : ∀ (H1 : Heap) (locs1 : List Loc) (X1 M1 : zS), Inv X1 M1 → zI Z spX bX none (zA bX 59) X1 H1 → zI Z spM bM none (zA bM 16) M1 H1 → va_S (fun q => s.heap.size ≤ q) s.heap H1 locs1 → W p l e room_1 s m #[Value.ref b] below meth c H1 locs1 cells slots (lw_Z below #[Value.ref b] s) (F0 m 1247 ls [])) : W p l e room_1 s m #[Value.ref b] below meth c H locs cells slots (lw_Z below #[Value.ref b] s) (F0 m 1055 ls []) := by
  have hbA : ¬ s.heap.size ≤ b := Nat.not_le.mpr hbl
  obtain ⟨r, X1, M1, eX, eM, hI1⟩ := hT (xs (ix + 1).toNatClampNeg) (xs (ix + 2).toNatClampNeg) (xs (ix + 3).toNatClampNeg) stX stM hInv
  refine lv_aload_n hx hb dL_law_1055 rfl (lv_at hl 1 rfl) ?_
  refine lv_aload_n hx hb dL_law_1056 rfl (lv_at hl 0 rfl) ?_
  refine lv_iload_n hx hb dL_law_1057 rfl (lv_at hl 3 rfl) ?_
  refine lv_iconst (v := 1) hx hb dL_law_1058 (by decide) ?_
  refine lv_iadd hx hb dL_law_1059 ?_
  refine va_sld hx hb hX hbl hbA hS (lw_in hL hk6 (j := 1) (by decide) hix rfl rfl) dL_law_1060 ?_
  refine lv_aload_n hx hb dL_law_1061 rfl (lv_at hl 0 rfl) ?_
  refine lv_iload_n hx hb dL_law_1062 rfl (lv_at hl 3 rfl) ?_
  refine lv_iconst (v := 2) hx hb dL_law_1063 (by decide) ?_
  refine lv_iadd hx hb dL_law_1064 ?_
  refine va_sld hx hb hX hbl hbA hS (lw_in hL hk6 (j := 2) (by decide) hix rfl rfl) dL_law_1065 ?_
  refine lv_aload_n hx hb dL_law_1066 rfl (lv_at hl 0 rfl) ?_
  refine lv_iload_n hx hb dL_law_1067 rfl (lv_at hl 3 rfl) ?_
  refine lv_iconst (v := 3) hx hb dL_law_1068 (by decide) ?_
  refine lv_iadd hx hb dL_law_1069 ?_
  refine va_sld hx hb hX hbl hbA hS (lw_in hL hk6 (j := 3) (by decide) hix rfl rfl) dL_law_1070 ?_
  refine lw_call (sp := spX) (b := bX) (n1 := 59) (A := fun q => s.heap.size ≤ q) (As := [vI (xs (ix + 1).toNatClampNeg), vI (xs (ix + 2).toNatClampNeg), vI (xs (ix + 3).toNatClampNeg)]) (rest := []) (ci := 7) ⟨hx, hb, hml, hown, hts⟩ hKv hB (kX7_cell l Z bX none 0 _ _ _ stX) eX (hN _ _ hInv).1 (by decide) rfl rfl (by decide) hkL_127 ⟨rfl, rfl⟩ hdL_X7_cell ⟨Nat.le_of_ble_eq_true rfl, Nat.le_of_ble_eq_true rfl⟩ hcs hIX (fun q h => Nat.le_trans (by omega) h.1) (fun q h => h) hS hl.1 rfl rfl (Nat.le_of_ble_eq_true rfl) dL_law_1071 (fun H1 locs1 hq0 hspX1 hS => ?_)
  have hIM := zI_stay hIM (fun q h1 h2 => by have h3 : bM ≤ q := h1.1; have h4 : q < bX + 59 := h2.2; omega) hq0
  refine lv_aload_n hx hb dL_law_1074 rfl (lv_at hl 2 rfl) ?_
  refine lv_aload_n hx hb dL_law_1075 rfl (lv_at hl 0 rfl) ?_
  refine lv_iload_n hx hb dL_law_1076 rfl (lv_at hl 3 rfl) ?_
  refine lv_iconst (v := 1) hx hb dL_law_1077 (by decide) ?_
  refine lv_iadd hx hb dL_law_1078 ?_
  refine va_sld hx hb hX hbl hbA hS (lw_in hL hk6 (j := 1) (by decide) hix rfl rfl) dL_law_1079 ?_
  refine lv_aload_n hx hb dL_law_1080 rfl (lv_at hl 0 rfl) ?_
  refine lv_iload_n hx hb dL_law_1081 rfl (lv_at hl 3 rfl) ?_
  refine lv_iconst (v := 2) hx hb dL_law_1082 (by decide) ?_
  refine lv_iadd hx hb dL_law_1083 ?_
  refine va_sld hx hb hX hbl hbA hS (lw_in hL hk6 (j := 2) (by decide) hix rfl rfl) dL_law_1084 ?_
  refine lv_aload_n hx hb dL_law_1085 rfl (lv_at hl 0 rfl) ?_
  refine lv_iload_n hx hb dL_law_1086 rfl (lv_at hl 3 rfl) ?_
  refine lv_iconst (v := 3) hx hb dL_law_1087 (by decide) ?_
  refine lv_iadd hx hb dL_law_1088 ?_
  refine va_sld hx hb hX hbl hbA hS (lw_in hL hk6 (j := 3) (by decide) hix rfl rfl) dL_law_1089 ?_
  refine lw_call (sp := spM) (b := bM) (n1 := 16) (A := fun q => s.heap.size ≤ q) (As := [vI (xs (ix + 1).toNatClampNeg), vI (xs (ix + 2).toNatClampNeg), vI (xs (ix + 3).toNatClampNeg)]) (rest := [zval 0 (vI r)]) (ci := 8) ⟨hx, hb, hml, hown, hts⟩ hKv (zB_mono hB (by omega)) (kX8_cell l Z bM none 0 _ _ _ stM) eM (hN _ _ hInv).2 (by decide) rfl rfl (by decide) hkL_130 ⟨rfl, rfl⟩ hdL_X8_cell ⟨Nat.le_of_ble_eq_true rfl, Nat.le_of_ble_eq_true rfl⟩ hcs hIM (fun q h => Nat.le_trans (by omega) h.1) (fun q h => h) hS hl.1 rfl rfl (Nat.le_of_ble_eq_true rfl) dL_law_1090 (fun H1 locs1 hq1 hspM1 hS => ?_)
  have hspX1 := zI_stay hspX1 (fun q h1 h2 => by have h3 : bM ≤ q := h2.1; have h4 : q < bX + 59 := h1.2; omega) hq1
  refine lv_icmp_eq (tgt := 1247) hx hb dL_law_1093 (by decide) (fun _ => ?_) (fun h => absurd rfl h)
  exact hgo H1 locs1 X1 M1 hI1 hspX1 hspM1 hS
set_option maxRecDepth 100000 in
set_option maxHeartbeats 4000000 in
theorem law_copy {p : Program} {e : Env} {s : State} {m : MethodId} {below : List Frame} {meth : Method} {c : Code} (l : Launch) {b L : Nat} {xs : Nat → Int32} (hx : p.tables.exec = Jvm.exec) (hb : c.code = code) (hr : meth.sig.returnType = ret) (hml : c.maxLocals = 4) (hown : s.vm.findClass RL = some m.cls) (hts : ∀ w ∈ wsL_law, w.before #[Value.ref b] s = true) (hX : va_X b L xs s s.heap) (hbl : b < s.heap.size) (hlocks : meth.locks = false) (hL : L ≤ 3072) {Z : zZ} {bX bM : Nat} (hbX : s.heap.size ≤ bX) (hbM : bM = bX + 59) (hKv : va_K Z.1 vwCl (zT Z.2.1) s) (hB : zB Z.2.2 bX s) {Inv : zS → zS → Prop} (hN : ∀ X M, Inv X M → X.1 = 59 ∧ M.1 = 16) (hT : ∀ (a0 : Int32) (a1 : Int32) (a2 : Int32) (a3 : Int32) (a4 : Int32), TM2 Inv (fun st => fX7_copy 0 a0 a1 a2 a3 a4 st) (fun st => fX8_copy 0 a0 a1 a2 a3 a4 st)) {cells slots : Nat} (hcs : cells ≤ room_1.cells ∧ slots ≤ room_1.slots) {k : Nat} {ix : Int32} (hix : ix = nI k) (hk6 : k + 6 ≤ L) {stX stM : zS} (hInv : Inv stX stM) {H : Heap} {locs : List Loc} {ls : Array Slot} (hIX : zI Z spX bX none (zA bX 59) stX H) (hIM : zI Z spM bM none (zA bM 16) stM H) (hS : va_S (fun q => s.heap.size ≤ q) s.heap H locs) (hl : lv_has ls 4 [(0, .ref b), (1, .ref bX), (2, .ref bM), (3, .int ix)]) (hgo : ∀ (H1 : Heap) (locs1 : List Loc) (X1 M1 : zS), Inv X1 M1 → zI Z spX bX none (zA bX 59) X1 H1 → zI Z spM bM none (zA bM 16) M1 H1 → va_S (fun q => s.heap.size ≤ q) s.heap H1 locs1 → W p l e room_1 s m #[Value.ref b] below meth c H1 locs1 cells slots (lw_Z below #[Value.ref b] s) (F0 m 1247 ls [])) : W p l e room_1 s m #[Value.ref b] below meth c H locs cells slots (lw_Z below #[Value.ref b] s) (F0 m 1098 ls []) := by
  have hbA : ¬ s.heap.size ≤ b := Nat.not_le.mpr hbl
  obtain ⟨r, X1, M1, eX, eM, hI1⟩ := hT (xs (ix + 1).toNatClampNeg) (xs (ix + 2).toNatClampNeg) (xs (ix + 3).toNatClampNeg) (xs (ix + 4).toNatClampNeg) (xs (ix + 5).toNatClampNeg) stX stM hInv
  refine lv_aload_n hx hb dL_law_1098 rfl (lv_at hl 1 rfl) ?_
  refine lv_aload_n hx hb dL_law_1099 rfl (lv_at hl 0 rfl) ?_
  refine lv_iload_n hx hb dL_law_1100 rfl (lv_at hl 3 rfl) ?_
  refine lv_iconst (v := 1) hx hb dL_law_1101 (by decide) ?_
  refine lv_iadd hx hb dL_law_1102 ?_
  refine va_sld hx hb hX hbl hbA hS (lw_in hL hk6 (j := 1) (by decide) hix rfl rfl) dL_law_1103 ?_
  refine lv_aload_n hx hb dL_law_1104 rfl (lv_at hl 0 rfl) ?_
  refine lv_iload_n hx hb dL_law_1105 rfl (lv_at hl 3 rfl) ?_
  refine lv_iconst (v := 2) hx hb dL_law_1106 (by decide) ?_
  refine lv_iadd hx hb dL_law_1107 ?_
  refine va_sld hx hb hX hbl hbA hS (lw_in hL hk6 (j := 2) (by decide) hix rfl rfl) dL_law_1108 ?_
  refine lv_aload_n hx hb dL_law_1109 rfl (lv_at hl 0 rfl) ?_
  refine lv_iload_n hx hb dL_law_1110 rfl (lv_at hl 3 rfl) ?_
  refine lv_iconst (v := 3) hx hb dL_law_1111 (by decide) ?_
  refine lv_iadd hx hb dL_law_1112 ?_
  refine va_sld hx hb hX hbl hbA hS (lw_in hL hk6 (j := 3) (by decide) hix rfl rfl) dL_law_1113 ?_
  refine lv_aload_n hx hb dL_law_1114 rfl (lv_at hl 0 rfl) ?_
  refine lv_iload_n hx hb dL_law_1115 rfl (lv_at hl 3 rfl) ?_
  refine lv_iconst (v := 4) hx hb dL_law_1116 (by decide) ?_
  refine lv_iadd hx hb dL_law_1117 ?_
  refine va_sld hx hb hX hbl hbA hS (lw_in hL hk6 (j := 4) (by decide) hix rfl rfl) dL_law_1118 ?_
  refine lv_aload_n hx hb dL_law_1119 rfl (lv_at hl 0 rfl) ?_
  refine lv_iload_n hx hb dL_law_1120 rfl (lv_at hl 3 rfl) ?_
  refine lv_iconst (v := 5) hx hb dL_law_1121 (by decide) ?_
  refine lv_iadd hx hb dL_law_1122 ?_
  refine va_sld hx hb hX hbl hbA hS (lw_in hL hk6 (j := 5) (by decide) hix rfl rfl) dL_law_1123 ?_
  refine lw_call (sp := spX) (b := bX) (n1 := 59) (A := fun q => s.heap.size ≤ q) (As := [vI (xs (ix + 1).toNatClampNeg), vI (xs (ix + 2).toNatClampNeg), vI (xs (ix + 3).toNatClampNeg), vI (xs (ix + 4).toNatClampNeg), vI (xs (ix + 5).toNatClampNeg)]) (rest := []) (ci := 7) ⟨hx, hb, hml, hown, hts⟩ hKv hB (kX7_copy l Z bX none rfl 0 _ _ _ _ _ stX) eX (hN _ _ hInv).1 (by decide) rfl rfl (by decide) hkL_131 ⟨rfl, rfl⟩ hdL_X7_copy ⟨Nat.le_of_ble_eq_true rfl, Nat.le_of_ble_eq_true rfl⟩ hcs hIX (fun q h => Nat.le_trans (by omega) h.1) (fun q h => h) hS hl.1 rfl rfl (Nat.le_of_ble_eq_true rfl) dL_law_1124 (fun H1 locs1 hq0 hspX1 hS => ?_)
  have hIM := zI_stay hIM (fun q h1 h2 => by have h3 : bM ≤ q := h1.1; have h4 : q < bX + 59 := h2.2; omega) hq0
  refine lv_aload_n hx hb dL_law_1127 rfl (lv_at hl 2 rfl) ?_
  refine lv_aload_n hx hb dL_law_1128 rfl (lv_at hl 0 rfl) ?_
  refine lv_iload_n hx hb dL_law_1129 rfl (lv_at hl 3 rfl) ?_
  refine lv_iconst (v := 1) hx hb dL_law_1130 (by decide) ?_
  refine lv_iadd hx hb dL_law_1131 ?_
  refine va_sld hx hb hX hbl hbA hS (lw_in hL hk6 (j := 1) (by decide) hix rfl rfl) dL_law_1132 ?_
  refine lv_aload_n hx hb dL_law_1133 rfl (lv_at hl 0 rfl) ?_
  refine lv_iload_n hx hb dL_law_1134 rfl (lv_at hl 3 rfl) ?_
  refine lv_iconst (v := 2) hx hb dL_law_1135 (by decide) ?_
  refine lv_iadd hx hb dL_law_1136 ?_
  refine va_sld hx hb hX hbl hbA hS (lw_in hL hk6 (j := 2) (by decide) hix rfl rfl) dL_law_1137 ?_
  refine lv_aload_n hx hb dL_law_1138 rfl (lv_at hl 0 rfl) ?_
  refine lv_iload_n hx hb dL_law_1139 rfl (lv_at hl 3 rfl) ?_
  refine lv_iconst (v := 3) hx hb dL_law_1140 (by decide) ?_
  refine lv_iadd hx hb dL_law_1141 ?_
  refine va_sld hx hb hX hbl hbA hS (lw_in hL hk6 (j := 3) (by decide) hix rfl rfl) dL_law_1142 ?_
  refine lv_aload_n hx hb dL_law_1143 rfl (lv_at hl 0 rfl) ?_
  refine lv_iload_n hx hb dL_law_1144 rfl (lv_at hl 3 rfl) ?_
  refine lv_iconst (v := 4) hx hb dL_law_1145 (by decide) ?_
  refine lv_iadd hx hb dL_law_1146 ?_
  refine va_sld hx hb hX hbl hbA hS (lw_in hL hk6 (j := 4) (by decide) hix rfl rfl) dL_law_1147 ?_
  refine lv_aload_n hx hb dL_law_1148 rfl (lv_at hl 0 rfl) ?_
  refine lv_iload_n hx hb dL_law_1149 rfl (lv_at hl 3 rfl) ?_
  refine lv_iconst (v := 5) hx hb dL_law_1150 (by decide) ?_
  refine lv_iadd hx hb dL_law_1151 ?_
  refine va_sld hx hb hX hbl hbA hS (lw_in hL hk6 (j := 5) (by decide) hix rfl rfl) dL_law_1152 ?_
  refine lw_call (sp := spM) (b := bM) (n1 := 16) (A := fun q => s.heap.size ≤ q) (As := [vI (xs (ix + 1).toNatClampNeg), vI (xs (ix + 2).toNatClampNeg), vI (xs (ix + 3).toNatClampNeg), vI (xs (ix + 4).toNatClampNeg), vI (xs (ix + 5).toNatClampNeg)]) (rest := [zval 0 (vI r)]) (ci := 8) ⟨hx, hb, hml, hown, hts⟩ hKv (zB_mono hB (by omega)) (kX8_copy l Z bM none 0 _ _ _ _ _ stM) eM (hN _ _ hInv).2 (by decide) rfl rfl (by decide) hkL_135 ⟨rfl, rfl⟩ hdL_X8_copy ⟨Nat.le_of_ble_eq_true rfl, Nat.le_of_ble_eq_true rfl⟩ hcs hIM (fun q h => Nat.le_trans (by omega) h.1) (fun q h => h) hS hl.1 rfl rfl (Nat.le_of_ble_eq_true rfl) dL_law_1153 (fun H1 locs1 hq1 hspM1 hS => ?_)
  have hspX1 := zI_stay hspX1 (fun q h1 h2 => by have h3 : bM ≤ q := h2.1; have h4 : q < bX + 59 := h1.2; omega) hq1
  refine lv_icmp_eq (tgt := 1247) hx hb dL_law_1156 (by decide) (fun _ => ?_) (fun h => absurd rfl h)
  exact hgo H1 locs1 X1 M1 hI1 hspX1 hspM1 hS
set_option maxRecDepth 100000 in
set_option maxHeartbeats 4000000 in
theorem law_askers {p : Program} {e : Env} {s : State} {m : MethodId} {below : List Frame} {meth : Method} {c : Code} (l : Launch) {b L : Nat} {xs : Nat → Int32} (hx : p.tables.exec = Jvm.exec) (hb : c.code = code) (hr : meth.sig.returnType = ret) (hml : c.maxLocals = 4) (hown : s.vm.findClass RL = some m.cls) (hts : ∀ w ∈ wsL_law, w.before #[Value.ref b] s = true) (hX : va_X b L xs s s.heap) (hbl : b < s.heap.size) (hlocks : meth.locks = false) (hL : L ≤ 3072) {Z : zZ} {bX bM : Nat} (hbX : s.heap.size ≤ bX) (hbM : bM = bX + 59) (hKv : va_K Z.1 vwCl (zT Z.2.1) s) (hB : zB Z.2.2 bX s) {Inv : zS → zS → Prop} (hN : ∀ X M, Inv X M → X.1 = 59 ∧ M.1 = 16) (hT : ∀ (a0 : Int32) (a1 : Int32) (a2 : Int32) (a3 : Int32), TM2 Inv (fun st => fX7_askers 0 a0 a1 a2 a3 st) (fun st => fX8_askers 0 a0 a1 a2 a3 st)) {cells slots : Nat} (hcs : cells ≤ room_1.cells ∧ slots ≤ room_1.slots) {k : Nat} {ix : Int32} (hix : ix = nI k) (hk6 : k + 6 ≤ L) {stX stM : zS} (hInv : Inv stX stM) {H : Heap} {locs : List Loc} {ls : Array Slot} (hIX : zI Z spX bX none (zA bX 59) stX H) (hIM : zI Z spM bM none (zA bM 16) stM H) (hS : va_S (fun q => s.heap.size ≤ q) s.heap H locs) (hl : lv_has ls 4 [(0, .ref b), (1, .ref bX), (2, .ref bM), (3, .int ix)]) (hgo : ∀ (H1 : Heap) (locs1 : List Loc) (X1 M1 : zS), Inv X1 M1 → zI Z spX bX none (zA bX 59) X1 H1 → zI Z spM bM none (zA bM 16) M1 H1 → va_S (fun q => s.heap.size ≤ q) s.heap H1 locs1 → W p l e room_1 s m #[Value.ref b] below meth c H1 locs1 cells slots (lw_Z below #[Value.ref b] s) (F0 m 1247 ls [])) : W p l e room_1 s m #[Value.ref b] below meth c H locs cells slots (lw_Z below #[Value.ref b] s) (F0 m 1161 ls []) := by
  have hbA : ¬ s.heap.size ≤ b := Nat.not_le.mpr hbl
  obtain ⟨r, X1, M1, eX, eM, hI1⟩ := hT (xs (ix + 1).toNatClampNeg) (xs (ix + 2).toNatClampNeg) (xs (ix + 3).toNatClampNeg) (xs (ix + 4).toNatClampNeg) stX stM hInv
  refine lv_aload_n hx hb dL_law_1161 rfl (lv_at hl 1 rfl) ?_
  refine lv_aload_n hx hb dL_law_1162 rfl (lv_at hl 0 rfl) ?_
  refine lv_iload_n hx hb dL_law_1163 rfl (lv_at hl 3 rfl) ?_
  refine lv_iconst (v := 1) hx hb dL_law_1164 (by decide) ?_
  refine lv_iadd hx hb dL_law_1165 ?_
  refine va_sld hx hb hX hbl hbA hS (lw_in hL hk6 (j := 1) (by decide) hix rfl rfl) dL_law_1166 ?_
  refine lv_aload_n hx hb dL_law_1167 rfl (lv_at hl 0 rfl) ?_
  refine lv_iload_n hx hb dL_law_1168 rfl (lv_at hl 3 rfl) ?_
  refine lv_iconst (v := 2) hx hb dL_law_1169 (by decide) ?_
  refine lv_iadd hx hb dL_law_1170 ?_
  refine va_sld hx hb hX hbl hbA hS (lw_in hL hk6 (j := 2) (by decide) hix rfl rfl) dL_law_1171 ?_
  refine lv_aload_n hx hb dL_law_1172 rfl (lv_at hl 0 rfl) ?_
  refine lv_iload_n hx hb dL_law_1173 rfl (lv_at hl 3 rfl) ?_
  refine lv_iconst (v := 3) hx hb dL_law_1174 (by decide) ?_
  refine lv_iadd hx hb dL_law_1175 ?_
  refine va_sld hx hb hX hbl hbA hS (lw_in hL hk6 (j := 3) (by decide) hix rfl rfl) dL_law_1176 ?_
  refine lv_aload_n hx hb dL_law_1177 rfl (lv_at hl 0 rfl) ?_
  refine lv_iload_n hx hb dL_law_1178 rfl (lv_at hl 3 rfl) ?_
  refine lv_iconst (v := 4) hx hb dL_law_1179 (by decide) ?_
  refine lv_iadd hx hb dL_law_1180 ?_
  refine va_sld hx hb hX hbl hbA hS (lw_in hL hk6 (j := 4) (by decide) hix rfl rfl) dL_law_1181 ?_
  refine lw_call (sp := spX) (b := bX) (n1 := 59) (A := fun q => s.heap.size ≤ q) (As := [vI (xs (ix + 1).toNatClampNeg), vI (xs (ix + 2).toNatClampNeg), vI (xs (ix + 3).toNatClampNeg), vI (xs (ix + 4).toNatClampNeg)]) (rest := []) (ci := 7) ⟨hx, hb, hml, hown, hts⟩ hKv hB (kX7_askers l Z bX none 0 _ _ _ _ stX) eX (hN _ _ hInv).1 (by decide) rfl rfl (by decide) hkL_136 ⟨rfl, rfl⟩ hdL_X7_askers ⟨Nat.le_of_ble_eq_true rfl, Nat.le_of_ble_eq_true rfl⟩ hcs hIX (fun q h => Nat.le_trans (by omega) h.1) (fun q h => h) hS hl.1 rfl rfl (Nat.le_of_ble_eq_true rfl) dL_law_1182 (fun H1 locs1 hq0 hspX1 hS => ?_)
  have hIM := zI_stay hIM (fun q h1 h2 => by have h3 : bM ≤ q := h1.1; have h4 : q < bX + 59 := h2.2; omega) hq0
  refine lv_aload_n hx hb dL_law_1185 rfl (lv_at hl 2 rfl) ?_
  refine lv_aload_n hx hb dL_law_1186 rfl (lv_at hl 0 rfl) ?_
  refine lv_iload_n hx hb dL_law_1187 rfl (lv_at hl 3 rfl) ?_
  refine lv_iconst (v := 1) hx hb dL_law_1188 (by decide) ?_
  refine lv_iadd hx hb dL_law_1189 ?_
  refine va_sld hx hb hX hbl hbA hS (lw_in hL hk6 (j := 1) (by decide) hix rfl rfl) dL_law_1190 ?_
  refine lv_aload_n hx hb dL_law_1191 rfl (lv_at hl 0 rfl) ?_
  refine lv_iload_n hx hb dL_law_1192 rfl (lv_at hl 3 rfl) ?_
  refine lv_iconst (v := 2) hx hb dL_law_1193 (by decide) ?_
  refine lv_iadd hx hb dL_law_1194 ?_
  refine va_sld hx hb hX hbl hbA hS (lw_in hL hk6 (j := 2) (by decide) hix rfl rfl) dL_law_1195 ?_
  refine lv_aload_n hx hb dL_law_1196 rfl (lv_at hl 0 rfl) ?_
  refine lv_iload_n hx hb dL_law_1197 rfl (lv_at hl 3 rfl) ?_
  refine lv_iconst (v := 3) hx hb dL_law_1198 (by decide) ?_
  refine lv_iadd hx hb dL_law_1199 ?_
  refine va_sld hx hb hX hbl hbA hS (lw_in hL hk6 (j := 3) (by decide) hix rfl rfl) dL_law_1200 ?_
  refine lv_aload_n hx hb dL_law_1201 rfl (lv_at hl 0 rfl) ?_
  refine lv_iload_n hx hb dL_law_1202 rfl (lv_at hl 3 rfl) ?_
  refine lv_iconst (v := 4) hx hb dL_law_1203 (by decide) ?_
  refine lv_iadd hx hb dL_law_1204 ?_
  refine va_sld hx hb hX hbl hbA hS (lw_in hL hk6 (j := 4) (by decide) hix rfl rfl) dL_law_1205 ?_
  refine lw_call (sp := spM) (b := bM) (n1 := 16) (A := fun q => s.heap.size ≤ q) (As := [vI (xs (ix + 1).toNatClampNeg), vI (xs (ix + 2).toNatClampNeg), vI (xs (ix + 3).toNatClampNeg), vI (xs (ix + 4).toNatClampNeg)]) (rest := [zval 0 (vI r)]) (ci := 8) ⟨hx, hb, hml, hown, hts⟩ hKv (zB_mono hB (by omega)) (kX8_askers l Z bM none 0 _ _ _ _ stM) eM (hN _ _ hInv).2 (by decide) rfl rfl (by decide) hkL_140 ⟨rfl, rfl⟩ hdL_X8_askers ⟨Nat.le_of_ble_eq_true rfl, Nat.le_of_ble_eq_true rfl⟩ hcs hIM (fun q h => Nat.le_trans (by omega) h.1) (fun q h => h) hS hl.1 rfl rfl (Nat.le_of_ble_eq_true rfl) dL_law_1206 (fun H1 locs1 hq1 hspM1 hS => ?_)
  have hspX1 := zI_stay hspX1 (fun q h1 h2 => by have h3 : bM ≤ q := h2.1; have h4 : q < bX + 59 := h1.2; omega) hq1
  refine lv_icmp_eq (tgt := 1247) hx hb dL_law_1209 (by decide) (fun _ => ?_) (fun h => absurd rfl h)
  exact hgo H1 locs1 X1 M1 hI1 hspX1 hspM1 hS
set_option maxRecDepth 100000 in
set_option maxHeartbeats 4000000 in
theorem law_taken {p : Program} {e : Env} {s : State} {m : MethodId} {below : List Frame} {meth : Method} {c : Code} (l : Launch) {b L : Nat} {xs : Nat → Int32} (hx : p.tables.exec = Jvm.exec) (hb : c.code = code) (hr : meth.sig.returnType = ret) (hml : c.maxLocals = 4) (hown : s.vm.findClass RL = some m.cls) (hts : ∀ w ∈ wsL_law, w.before #[Value.ref b] s = true) (hX : va_X b L xs s s.heap) (hbl : b < s.heap.size) (hlocks : meth.locks = false) (hL : L ≤ 3072) {Z : zZ} {bX bM : Nat} (hbX : s.heap.size ≤ bX) (hbM : bM = bX + 59) (hKv : va_K Z.1 vwCl (zT Z.2.1) s) (hB : zB Z.2.2 bX s) {Inv : zS → zS → Prop} (hN : ∀ X M, Inv X M → X.1 = 59 ∧ M.1 = 16) (hT : ∀ (a0 : Int32) (a1 : Int32), TM2 Inv (fun st => fX7_taken 0 a0 a1 st) (fun st => fX8_taken 0 a0 a1 st)) {cells slots : Nat} (hcs : cells ≤ room_1.cells ∧ slots ≤ room_1.slots) {k : Nat} {ix : Int32} (hix : ix = nI k) (hk6 : k + 6 ≤ L) {stX stM : zS} (hInv : Inv stX stM) {H : Heap} {locs : List Loc} {ls : Array Slot} (hIX : zI Z spX bX none (zA bX 59) stX H) (hIM : zI Z spM bM none (zA bM 16) stM H) (hS : va_S (fun q => s.heap.size ≤ q) s.heap H locs) (hl : lv_has ls 4 [(0, .ref b), (1, .ref bX), (2, .ref bM), (3, .int ix)]) (hgo : ∀ (H1 : Heap) (locs1 : List Loc) (X1 M1 : zS), Inv X1 M1 → zI Z spX bX none (zA bX 59) X1 H1 → zI Z spM bM none (zA bM 16) M1 H1 → va_S (fun q => s.heap.size ≤ q) s.heap H1 locs1 → W p l e room_1 s m #[Value.ref b] below meth c H1 locs1 cells slots (lw_Z below #[Value.ref b] s) (F0 m 1247 ls [])) : W p l e room_1 s m #[Value.ref b] below meth c H locs cells slots (lw_Z below #[Value.ref b] s) (F0 m 1214 ls []) := by
  have hbA : ¬ s.heap.size ≤ b := Nat.not_le.mpr hbl
  obtain ⟨r, X1, M1, eX, eM, hI1⟩ := hT (xs (ix + 1).toNatClampNeg) (xs (ix + 2).toNatClampNeg) stX stM hInv
  refine lv_aload_n hx hb dL_law_1214 rfl (lv_at hl 1 rfl) ?_
  refine lv_aload_n hx hb dL_law_1215 rfl (lv_at hl 0 rfl) ?_
  refine lv_iload_n hx hb dL_law_1216 rfl (lv_at hl 3 rfl) ?_
  refine lv_iconst (v := 1) hx hb dL_law_1217 (by decide) ?_
  refine lv_iadd hx hb dL_law_1218 ?_
  refine va_sld hx hb hX hbl hbA hS (lw_in hL hk6 (j := 1) (by decide) hix rfl rfl) dL_law_1219 ?_
  refine lv_aload_n hx hb dL_law_1220 rfl (lv_at hl 0 rfl) ?_
  refine lv_iload_n hx hb dL_law_1221 rfl (lv_at hl 3 rfl) ?_
  refine lv_iconst (v := 2) hx hb dL_law_1222 (by decide) ?_
  refine lv_iadd hx hb dL_law_1223 ?_
  refine va_sld hx hb hX hbl hbA hS (lw_in hL hk6 (j := 2) (by decide) hix rfl rfl) dL_law_1224 ?_
  refine lw_call (sp := spX) (b := bX) (n1 := 59) (A := fun q => s.heap.size ≤ q) (As := [vI (xs (ix + 1).toNatClampNeg), vI (xs (ix + 2).toNatClampNeg)]) (rest := []) (ci := 7) ⟨hx, hb, hml, hown, hts⟩ hKv hB (kX7_taken l Z bX none 0 _ _ stX) eX (hN _ _ hInv).1 (by decide) rfl rfl (by decide) hkL_141 ⟨rfl, rfl⟩ hdL_X7_taken ⟨Nat.le_of_ble_eq_true rfl, Nat.le_of_ble_eq_true rfl⟩ hcs hIX (fun q h => Nat.le_trans (by omega) h.1) (fun q h => h) hS hl.1 rfl rfl (Nat.le_of_ble_eq_true rfl) dL_law_1225 (fun H1 locs1 hq0 hspX1 hS => ?_)
  have hIM := zI_stay hIM (fun q h1 h2 => by have h3 : bM ≤ q := h1.1; have h4 : q < bX + 59 := h2.2; omega) hq0
  refine lv_aload_n hx hb dL_law_1228 rfl (lv_at hl 2 rfl) ?_
  refine lv_aload_n hx hb dL_law_1229 rfl (lv_at hl 0 rfl) ?_
  refine lv_iload_n hx hb dL_law_1230 rfl (lv_at hl 3 rfl) ?_
  refine lv_iconst (v := 1) hx hb dL_law_1231 (by decide) ?_
  refine lv_iadd hx hb dL_law_1232 ?_
  refine va_sld hx hb hX hbl hbA hS (lw_in hL hk6 (j := 1) (by decide) hix rfl rfl) dL_law_1233 ?_
  refine lv_aload_n hx hb dL_law_1234 rfl (lv_at hl 0 rfl) ?_
  refine lv_iload_n hx hb dL_law_1235 rfl (lv_at hl 3 rfl) ?_
  refine lv_iconst (v := 2) hx hb dL_law_1236 (by decide) ?_
  refine lv_iadd hx hb dL_law_1237 ?_
  refine va_sld hx hb hX hbl hbA hS (lw_in hL hk6 (j := 2) (by decide) hix rfl rfl) dL_law_1238 ?_
  refine lw_call (sp := spM) (b := bM) (n1 := 16) (A := fun q => s.heap.size ≤ q) (As := [vI (xs (ix + 1).toNatClampNeg), vI (xs (ix + 2).toNatClampNeg)]) (rest := [zval 0 (vI r)]) (ci := 8) ⟨hx, hb, hml, hown, hts⟩ hKv (zB_mono hB (by omega)) (kX8_taken l Z bM none 0 _ _ stM) eM (hN _ _ hInv).2 (by decide) rfl rfl (by decide) hkL_144 ⟨rfl, rfl⟩ hdL_X8_taken ⟨Nat.le_of_ble_eq_true rfl, Nat.le_of_ble_eq_true rfl⟩ hcs hIM (fun q h => Nat.le_trans (by omega) h.1) (fun q h => h) hS hl.1 rfl rfl (Nat.le_of_ble_eq_true rfl) dL_law_1239 (fun H1 locs1 hq1 hspM1 hS => ?_)
  have hspX1 := zI_stay hspX1 (fun q h1 h2 => by have h3 : bM ≤ q := h2.1; have h4 : q < bX + 59 := h1.2; omega) hq1
  refine lv_icmp_eq (tgt := 1247) hx hb dL_law_1242 (by decide) (fun _ => ?_) (fun h => absurd rfl h)
  exact hgo H1 locs1 X1 M1 hI1 hspX1 hspM1 hS
