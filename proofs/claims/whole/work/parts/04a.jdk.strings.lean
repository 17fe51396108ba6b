theorem zw_1 : Cond.methodLink RJ0 1059 yJ3_checkIndex_8e157 ∈ wsL_law := zr_30 _ (by decide +kernel)
theorem zw_2 : Cond.static yJ3_checkIndex_8e157 ∈ wsL_law := zr_30 _ (by decide +kernel)
theorem zw_3 : Cond.initialized RJ3 ∈ wsL_law := zr_30 _ (by decide +kernel)
theorem zw_4 : Cond.code yJ3_checkIndex_8e157 cJ3_checkIndex_8e157 3 (some .int) ∈ wsL_law := zr_30 _ (by decide +kernel)
theorem hk_J0_1059 : ∀ w ∈ ([Cond.methodLink RJ0 1059 yJ3_checkIndex_8e157, Cond.static yJ3_checkIndex_8e157, Cond.initialized RJ3, Cond.code yJ3_checkIndex_8e157 cJ3_checkIndex_8e157 3 (some .int)] : List Cond), w ∈ wsL_law := List.forall_mem_cons.mpr ⟨zw_1, List.forall_mem_cons.mpr ⟨zw_2, List.forall_mem_cons.mpr ⟨zw_3, List.forall_mem_cons.mpr ⟨zw_4, fun _ h => absurd h List.not_mem_nil⟩⟩⟩⟩
theorem zw_5 : Cond.methodLink RJ0 335 yJ0_coder_7d493 ∈ wsL_law := zr_29 _ (by decide +kernel)
theorem zw_6 : Cond.instanceMethod yJ0_coder_7d493 ∈ wsL_law := zr_29 _ (by decide +kernel)
theorem zw_7 : Cond.selects RJ0 yJ0_coder_7d493 yJ0_coder_7d493 ∈ wsL_law := zr_29 _ (by decide +kernel)
theorem zw_8 : Cond.initialized RJ0 ∈ wsL_law := zr_29 _ (by decide +kernel)
theorem zw_9 : Cond.code yJ0_coder_7d493 cJ0_coder_7d493 1 (some .byte) ∈ wsL_law := zr_29 _ (by decide +kernel)
theorem hk_J0_335 : ∀ w ∈ ([Cond.methodLink RJ0 335 yJ0_coder_7d493, Cond.instanceMethod yJ0_coder_7d493, Cond.selects RJ0 yJ0_coder_7d493 yJ0_coder_7d493, Cond.initialized RJ0, Cond.code yJ0_coder_7d493 cJ0_coder_7d493 1 (some .byte)] : List Cond), w ∈ wsL_law := List.forall_mem_cons.mpr ⟨zw_5, List.forall_mem_cons.mpr ⟨zw_6, List.forall_mem_cons.mpr ⟨zw_7, List.forall_mem_cons.mpr ⟨zw_8, List.forall_mem_cons.mpr ⟨zw_9, fun _ h => absurd h List.not_mem_nil⟩⟩⟩⟩⟩
theorem zw_10 : Cond.methodLink RJ0 492 yJ0_isLatin1_aae02 ∈ wsL_law := zr_30 _ (by decide +kernel)
theorem zw_11 : Cond.instanceMethod yJ0_isLatin1_aae02 ∈ wsL_law := zr_30 _ (by decide +kernel)
theorem zw_12 : Cond.selects RJ0 yJ0_isLatin1_aae02 yJ0_isLatin1_aae02 ∈ wsL_law := zr_30 _ (by decide +kernel)
theorem zw_13 : Cond.code yJ0_isLatin1_aae02 cJ0_isLatin1_aae02 1 (some .boolean) ∈ wsL_law := zr_30 _ (by decide +kernel)
theorem hk_J0_492 : ∀ w ∈ ([Cond.methodLink RJ0 492 yJ0_isLatin1_aae02, Cond.instanceMethod yJ0_isLatin1_aae02, Cond.selects RJ0 yJ0_isLatin1_aae02 yJ0_isLatin1_aae02, Cond.initialized RJ0, Cond.code yJ0_isLatin1_aae02 cJ0_isLatin1_aae02 1 (some .boolean)] : List Cond), w ∈ wsL_law := List.forall_mem_cons.mpr ⟨zw_10, List.forall_mem_cons.mpr ⟨zw_11, List.forall_mem_cons.mpr ⟨zw_12, List.forall_mem_cons.mpr ⟨zw_8, List.forall_mem_cons.mpr ⟨zw_13, fun _ h => absurd h List.not_mem_nil⟩⟩⟩⟩⟩
theorem zw_14 : Cond.methodLink RJ0 495 yJ1_charAt_3b067 ∈ wsL_law := zr_30 _ (by decide +kernel)
theorem zw_15 : Cond.static yJ1_charAt_3b067 ∈ wsL_law := zr_30 _ (by decide +kernel)
theorem zw_16 : Cond.initialized RJ1 ∈ wsL_law := zr_30 _ (by decide +kernel)
theorem zw_17 : Cond.code yJ1_charAt_3b067 cJ1_charAt_3b067 2 (some .char) ∈ wsL_law := zr_30 _ (by decide +kernel)
theorem hk_J0_495 : ∀ w ∈ ([Cond.methodLink RJ0 495 yJ1_charAt_3b067, Cond.static yJ1_charAt_3b067, Cond.initialized RJ1, Cond.code yJ1_charAt_3b067 cJ1_charAt_3b067 2 (some .char)] : List Cond), w ∈ wsL_law := List.forall_mem_cons.mpr ⟨zw_14, List.forall_mem_cons.mpr ⟨zw_15, List.forall_mem_cons.mpr ⟨zw_16, List.forall_mem_cons.mpr ⟨zw_17, fun _ h => absurd h List.not_mem_nil⟩⟩⟩⟩
theorem zw_18 : Cond.methodLink RJ1 9 yJ0_checkIndex_df160 ∈ wsL_law := zr_30 _ (by decide +kernel)
theorem zw_19 : Cond.static yJ0_checkIndex_df160 ∈ wsL_law := zr_30 _ (by decide +kernel)
theorem zw_20 : Cond.code yJ0_checkIndex_df160 cJ0_checkIndex_df160 2 none ∈ wsL_law := zr_30 _ (by decide +kernel)
theorem hk_J1_9 : ∀ w ∈ ([Cond.methodLink RJ1 9 yJ0_checkIndex_df160, Cond.static yJ0_checkIndex_df160, Cond.initialized RJ0, Cond.code yJ0_checkIndex_df160 cJ0_checkIndex_df160 2 none] : List Cond), w ∈ wsL_law := List.forall_mem_cons.mpr ⟨zw_18, List.forall_mem_cons.mpr ⟨zw_19, List.forall_mem_cons.mpr ⟨zw_8, List.forall_mem_cons.mpr ⟨zw_20, fun _ h => absurd h List.not_mem_nil⟩⟩⟩⟩
theorem hd_J0_checkIndex_df160 : yJ0_checkIndex_df160.cls = RJ0 ∧ yJ0_checkIndex_df160.cls ≠ "java/lang/invoke/MethodHandle" ∧ yJ0_checkIndex_df160.cls ≠ "java/lang/invoke/VarHandle" ∧ (parseMethodDescriptor yJ0_checkIndex_df160.desc).map (fun d => d.parameters.length) = some 2 := by decide +kernel
theorem hd_J0_coder_7d493 : yJ0_coder_7d493.cls = RJ0 ∧ yJ0_coder_7d493.cls ≠ "java/lang/invoke/MethodHandle" ∧ yJ0_coder_7d493.cls ≠ "java/lang/invoke/VarHandle" ∧ (parseMethodDescriptor yJ0_coder_7d493.desc).map (fun d => d.parameters.length) = some 0 := by decide +kernel
theorem hd_J0_isLatin1_aae02 : yJ0_isLatin1_aae02.cls = RJ0 ∧ yJ0_isLatin1_aae02.cls ≠ "java/lang/invoke/MethodHandle" ∧ yJ0_isLatin1_aae02.cls ≠ "java/lang/invoke/VarHandle" ∧ (parseMethodDescriptor yJ0_isLatin1_aae02.desc).map (fun d => d.parameters.length) = some 0 := by decide +kernel
theorem hd_J1_charAt_3b067 : yJ1_charAt_3b067.cls = RJ1 ∧ yJ1_charAt_3b067.cls ≠ "java/lang/invoke/MethodHandle" ∧ yJ1_charAt_3b067.cls ≠ "java/lang/invoke/VarHandle" ∧ (parseMethodDescriptor yJ1_charAt_3b067.desc).map (fun d => d.parameters.length) = some 2 := by decide +kernel
theorem hd_J3_checkIndex_8e157 : yJ3_checkIndex_8e157.cls = RJ3 ∧ yJ3_checkIndex_8e157.cls ≠ "java/lang/invoke/MethodHandle" ∧ yJ3_checkIndex_8e157.cls ≠ "java/lang/invoke/VarHandle" ∧ (parseMethodDescriptor yJ3_checkIndex_8e157.desc).map (fun d => d.parameters.length) = some 3 := by decide +kernel
theorem zw_21 : Cond.fieldLink RJ0 1053 "jdk/internal/util/Preconditions" "SIOOBE_FORMATTER" "Ljava/util/function/BiFunction;" ∈ wsL_law := zr_30 _ (by decide +kernel)
theorem hf_J0_1053 : Cond.fieldLink RJ0 1053 "jdk/internal/util/Preconditions" "SIOOBE_FORMATTER" "Ljava/util/function/BiFunction;" ∈ wsL_law := zw_21
theorem zw_22 : Cond.fieldLink RJ0 15 "java/lang/String" "coder" "B" ∈ wsL_law := zr_29 _ (by decide +kernel)
theorem hf_J0_15 : Cond.fieldLink RJ0 15 "java/lang/String" "coder" "B" ∈ wsL_law := zw_22
theorem zw_23 : Cond.fieldLink RJ0 38 "java/lang/String" "COMPACT_STRINGS" "Z" ∈ wsL_law := zr_29 _ (by decide +kernel)
theorem hf_J0_38 : Cond.fieldLink RJ0 38 "java/lang/String" "COMPACT_STRINGS" "Z" ∈ wsL_law := zw_23
theorem zw_24 : Cond.fieldLink RJ0 9 "java/lang/String" "value" "[B" ∈ wsL_law := zr_29 _ (by decide +kernel)
theorem hf_J0_9 : Cond.fieldLink RJ0 9 "java/lang/String" "value" "[B" ∈ wsL_law := zw_24
theorem zw_25 : Cond.fieldLink RX7 303 "WellGivesOther" "KIND_ABOVE" "[I" ∈ wsL_law := zr_51 _ (by decide +kernel)
theorem hf_X7_303 : Cond.fieldLink RX7 303 "WellGivesOther" "KIND_ABOVE" "[I" ∈ wsL_law := zw_25
theorem zw_26 : Cond.methodLink RX7 287 arraycopyName ∈ wsL_law := zr_50 _ (by decide +kernel)
theorem zw_27 : Cond.native arraycopyName ∈ wsL_law := zr_50 _ (by decide +kernel)
theorem zw_28 : Cond.static arraycopyName ∈ wsL_law := zr_50 _ (by decide +kernel)
theorem zw_29 : Cond.initialized "java/lang/System" ∈ wsL_law := zr_50 _ (by decide +kernel)
theorem hs_copy : ∀ w ∈ ([.methodLink RX7 287 arraycopyName, .native arraycopyName, .static arraycopyName, .initialized "java/lang/System"] : List Cond), w ∈ wsL_law := List.forall_mem_cons.mpr ⟨zw_26, List.forall_mem_cons.mpr ⟨zw_27, List.forall_mem_cons.mpr ⟨zw_28, List.forall_mem_cons.mpr ⟨zw_29, fun _ h => absurd h List.not_mem_nil⟩⟩⟩⟩
abbrev rmJ0_coder : Room := { frames := 1, cells := 0, slots := 0, locals := 40 }
abbrev rmJ0_len : Room := { frames := 2, cells := 0, slots := 0, locals := 100 }
abbrev rmJ3_ci : Room := { frames := 1, cells := 0, slots := 0, locals := 40 }
abbrev rmJ0_ci : Room := { frames := 2, cells := 0, slots := 0, locals := 100 }
abbrev rmJ1_ca : Room := { frames := 3, cells := 0, slots := 0, locals := 160 }
abbrev rmJ0_ca : Room := { frames := 4, cells := 0, slots := 0, locals := 220 }
theorem zLen_lt : ∀ i, i < 12 → zLen.getD i 0 < 7 := by decide +kernel
def fJ0_length_8abf5 (i : Nat) (st : zS) : Option (Int32 × zS) := some (Int32.ofNat (zLen.getD i 0) >>> ((0 : Int32) &&& 31), st)
def fJ0_charAt_5068e (i : Nat) (k : Int32) (st : zS) : Option (Int32 × zS) := if k < 0 ∨ zLen.getD i 0 ≤ k.toNatClampNeg then none else some (((((zByt.getD i []).getD k.toNatClampNeg 0) &&& 255).toUInt32 % 65536).toInt32, st)
set_option maxRecDepth 100000 in
set_option maxHeartbeats 4000000 in
theorem kJ0_coder (l : Launch) (Z : zZ) (sp : Nat → Nat × Nat) (b : Nat) (x : Option Nat) (i : Nat) (hi : i < 12) (st : zS) : zC l Z sp b x yJ0_coder_7d493 (.code yJ0_coder_7d493 cJ0_coder_7d493 1 (some .byte)) rmJ0_coder rI [vA (Z.2.2.2.1 i)] st (some ((0 : Int32), st)) := by
  refine z_start (own := RJ0) rfl (by decide +kernel) (Nat.le_of_ble_eq_true rfl) rfl (fun p e s m args below meth c res Q A X hK hr hlocks hQ => ?_)
  refine z_compact X hK hf_J0_38 dJ0_coder_7d493_0 ?_
  refine z_eq (co1 := (if (1 : Int32) = 0 then none else some ((0 : Int32), st))) rfl ?_
  refine z_if_eq X (tgt := 13) dJ0_coder_7d493_3 (by decide) (fun h => absurd h (by decide)) (fun _ => ?_)
  refine z_aloadA_n X (q := 0) dJ0_coder_7d493_6 rfl rfl ?_
  refine z_strcod X hK hi hf_J0_15 dJ0_coder_7d493_7 ?_
  refine z_goto X (tgt := 14) dJ0_coder_7d493_10 (by decide) ?_
  subst hQ; exact z_nret X hlocks hr rfl dJ0_coder_7d493_14
set_option maxRecDepth 100000 in
set_option maxHeartbeats 4000000 in
theorem kJ0_isLatin1 (l : Launch) (Z : zZ) (sp : Nat → Nat × Nat) (b : Nat) (x : Option Nat) (i : Nat) (hi : i < 12) (st : zS) : zC l Z sp b x yJ0_isLatin1_aae02 (.code yJ0_isLatin1_aae02 cJ0_isLatin1_aae02 1 (some .boolean)) rmJ0_coder rI [vA (Z.2.2.2.1 i)] st (some ((1 : Int32), st)) := by
  refine z_start (own := RJ0) rfl (by decide +kernel) (Nat.le_of_ble_eq_true rfl) rfl (fun p e s m args below meth c res Q A X hK hr hlocks hQ => ?_)
  refine z_compact X hK hf_J0_38 dJ0_isLatin1_aae02_0 ?_
  refine z_eq (co1 := (if (1 : Int32) = 0 then none else (if (0 : Int32) = 0 then some ((1 : Int32), st) else none))) rfl ?_
  refine z_if_eq X (tgt := 17) dJ0_isLatin1_aae02_3 (by decide) (fun h => absurd h (by decide)) (fun _ => ?_)
  refine z_aloadA_n X (q := 0) dJ0_isLatin1_aae02_6 rfl rfl ?_
  refine z_strcod X hK hi hf_J0_15 dJ0_isLatin1_aae02_7 ?_
  refine z_if_ne X (tgt := 17) dJ0_isLatin1_aae02_10 (by decide) (fun h => absurd rfl h) (fun _ => ?_)
  refine z_iconst X (v := (1 : Int32)) dJ0_isLatin1_aae02_13 (by decide) ?_
  refine z_goto X (tgt := 18) dJ0_isLatin1_aae02_14 (by decide) ?_
  subst hQ; exact z_nret X hlocks hr rfl dJ0_isLatin1_aae02_18
set_option maxRecDepth 100000 in
set_option maxHeartbeats 4000000 in
theorem kJ0_length_8abf5 (l : Launch) (Z : zZ) (sp : Nat → Nat × Nat) (b : Nat) (x : Option Nat) (i : Nat) (hi : i < 12) (st : zS) : zC l Z sp b x yJ0_length_8abf5 (.code yJ0_length_8abf5 cJ0_length_8abf5 1 (some .int)) rmJ0_len rI [vA (Z.2.2.2.1 i)] st (fJ0_length_8abf5 i st) := by
  refine z_start (own := RJ0) rfl (by decide +kernel) (Nat.le_of_ble_eq_true rfl) rfl (fun p e s m args below meth c res Q A X hK hr hlocks hQ => ?_)
  refine z_aloadA_n X (q := 0) dJ0_length_8abf5_0 rfl rfl ?_
  refine z_strval X hK hi hf_J0_9 dJ0_length_8abf5_1 ?_
  refine z_balen X hK hi dJ0_length_8abf5_4 ?_
  refine z_aloadA_n X (q := 0) dJ0_length_8abf5_5 rfl rfl ?_
  refine z_eq (co1 := (some ((0 : Int32), st)).bind fun q => some (Int32.ofNat (zLen.getD i 0) >>> (q.1 &&& 31), q.2)) rfl ?_
  refine z_callA X hK (As := []) hi (kJ0_coder l Z sp b x i hi st) hk_J0_335 ⟨rfl, rfl⟩ hd_J0_coder_7d493 ⟨Nat.le_of_ble_eq_true rfl, Nat.le_of_ble_eq_true rfl⟩ ⟨Nat.le_of_ble_eq_true rfl, Nat.le_of_ble_eq_true rfl⟩ rfl rfl (Nat.le_of_ble_eq_true rfl) dJ0_length_8abf5_6 (fun q => ?_)
  refine z_ishr X dJ0_length_8abf5_9 ?_
  subst hQ; exact z_iret X hlocks hr dJ0_length_8abf5_10
set_option maxRecDepth 100000 in
set_option maxHeartbeats 4000000 in
theorem kJ3_checkIndex (l : Launch) (Z : zZ) (sp : Nat → Nat × Nat) (b : Nat) (x : Option Nat) (k n : Int32) (v : zv) (hv : v = vP none ∨ ∃ t, v = vA t) (st : zS) : zC l Z sp b x yJ3_checkIndex_8e157 (.code yJ3_checkIndex_8e157 cJ3_checkIndex_8e157 3 (some .int)) rmJ3_ci rI [vI k, vI n, v] st (if k < 0 then none else if k < n then some (k, st) else none) := by
  have hcv : zcat v = 1 := by rcases hv with rfl | ⟨t, rfl⟩ <;> rfl
  refine z_start (own := RJ3) rfl (by decide +kernel) (by show 1 + (1 + (zcat v + 0)) ≤ 3; omega) rfl (fun p e s m args below meth c res Q A X hK hr hlocks hQ => ?_)
  refine z_iload_n X (q := 0) dJ3_checkIndex_8e157_0 rfl rfl ?_
  refine z_if_lt X (tgt := 9) dJ3_checkIndex_8e157_1 (by decide) (fun _ => z_none) (fun _ => ?_)
  refine z_iload_n X (q := 0) dJ3_checkIndex_8e157_4 rfl rfl ?_
  refine z_iload_n X (q := 1) dJ3_checkIndex_8e157_5 rfl rfl ?_
  refine z_icmp_lt X (tgt := 16) dJ3_checkIndex_8e157_6 (by decide) (fun _ => ?_) (fun _ => z_none)
  refine z_iload_n X (q := 0) dJ3_checkIndex_8e157_16 rfl rfl ?_
  subst hQ; exact z_iret X hlocks hr dJ3_checkIndex_8e157_17
set_option maxRecDepth 100000 in
set_option maxHeartbeats 4000000 in
theorem kJ0_checkIndex (l : Launch) (Z : zZ) (sp : Nat → Nat × Nat) (b : Nat) (x : Option Nat) (k n : Int32) (st : zS) : zC l Z sp b x yJ0_checkIndex_df160 (.code yJ0_checkIndex_df160 cJ0_checkIndex_df160 2 none) rmJ0_ci rV [vI k, vI n] st ((if k < 0 then none else if k < n then some (k, st) else none).bind fun q => some ((), q.2)) := by
  refine z_start (own := RJ0) rfl (by decide +kernel) (Nat.le_of_ble_eq_true rfl) rfl (fun p e s m args below meth c res Q A X hK hr hlocks hQ => ?_)
  refine z_iload_n X (q := 0) dJ0_checkIndex_df160_0 rfl rfl ?_
  refine z_iload_n X (q := 1) dJ0_checkIndex_df160_1 rfl rfl ?_
  refine z_sioobe X hK hf_J0_1053 dJ0_checkIndex_df160_2 (fun v hv => ?_)
  refine z_callS X hK (As := [vI k, vI n, v]) (kJ3_checkIndex l Z sp b x k n v hv st) hk_J0_1059 ⟨rfl, rfl⟩ hd_J3_checkIndex_8e157.2 ⟨Nat.le_of_ble_eq_true rfl, Nat.le_of_ble_eq_true rfl⟩ ⟨Nat.le_of_ble_eq_true rfl, Nat.le_of_ble_eq_true rfl⟩ rfl rfl (Nat.le_of_ble_eq_true rfl) dJ0_checkIndex_df160_5 (fun q => ?_)
  refine z_pop X dJ0_checkIndex_df160_8 rfl ?_
  subst hQ; exact z_vret X hlocks hr dJ0_checkIndex_df160_9
set_option maxRecDepth 100000 in
set_option maxHeartbeats 4000000 in
theorem kJ1_charAt (l : Launch) (Z : zZ) (sp : Nat → Nat × Nat) (b : Nat) (x : Option Nat) (i : Nat) (hi : i < 12) (k : Int32) (st : zS) : zC l Z sp b x yJ1_charAt_3b067 (.code yJ1_charAt_3b067 cJ1_charAt_3b067 2 (some .char)) rmJ1_ca rI [vA (Z.2.2.2.2 i), vI k] st (fJ0_charAt_5068e i k st) := by
  by_cases hk : k < 0 ∨ zLen.getD i 0 ≤ k.toNatClampNeg
  · intro res h
    rw [fJ0_charAt_5068e, if_pos hk] at h
    cases h
  have hj : vp_in k (zLen.getD i 0) := hk
  have hk0 : ¬ k < 0 := fun h => hk (Or.inl h)
  have hkn : k < Int32.ofNat (zLen.getD i 0) := by
    obtain ⟨j, hj1, rfl⟩ := vp_in_of hj (Nat.lt_of_lt_of_le (zLen_lt i hi) (by decide))
    exact nI_lt hj1 (Nat.lt_of_lt_of_le (zLen_lt i hi) (by decide))
  refine z_start (own := RJ1) rfl (by decide +kernel) (Nat.le_of_ble_eq_true rfl) rfl (fun p e s m args below meth c res Q A X hK hr hlocks hQ => ?_)
  rw [fJ0_charAt_5068e, if_neg hk]
  refine z_iload_n X (q := 1) dJ1_charAt_3b067_0 rfl rfl ?_
  refine z_aloadA_n X (q := 0) dJ1_charAt_3b067_1 rfl rfl ?_
  refine z_balen X hK hi dJ1_charAt_3b067_2 ?_
  refine z_eq (co1 := ((if k < 0 then none else if k < Int32.ofNat (zLen.getD i 0) then some (k, st) else none).bind fun q => some ((), q.2)).bind fun q => some (((((zByt.getD i []).getD k.toNatClampNeg 0) &&& 255).toUInt32 % 65536).toInt32, q.2)) (by rw [if_neg hk0, if_pos hkn]; rfl) ?_
  refine z_callS X hK (As := [vI k, vI _]) (kJ0_checkIndex l Z sp b x k _ st) hk_J1_9 ⟨rfl, rfl⟩ hd_J0_checkIndex_df160.2 ⟨Nat.le_of_ble_eq_true rfl, Nat.le_of_ble_eq_true rfl⟩ ⟨Nat.le_of_ble_eq_true rfl, Nat.le_of_ble_eq_true rfl⟩ rfl rfl (Nat.le_of_ble_eq_true rfl) dJ1_charAt_3b067_3 (fun q => ?_)
  refine z_aloadA_n X (q := 0) dJ1_charAt_3b067_6 rfl rfl ?_
  refine z_iload_n X (q := 1) dJ1_charAt_3b067_7 rfl rfl ?_
  refine z_bald X hK hi hj dJ1_charAt_3b067_8 ?_
  refine z_sipush X (v := (255 : Int32)) dJ1_charAt_3b067_9 (by decide) ?_
  refine z_iand X dJ1_charAt_3b067_12 ?_
  refine z_i2c X dJ1_charAt_3b067_13 ?_
  subst hQ; exact z_nret X hlocks hr (pk_nc _) dJ1_charAt_3b067_14
set_option maxRecDepth 100000 in
set_option maxHeartbeats 4000000 in
theorem kJ0_charAt_5068e (l : Launch) (Z : zZ) (sp : Nat → Nat × Nat) (b : Nat) (x : Option Nat) (i : Nat) (hi : i < 12) (k : Int32) (st : zS) : zC l Z sp b x yJ0_charAt_5068e (.code yJ0_charAt_5068e cJ0_charAt_5068e 2 (some .char)) rmJ0_ca rI [vA (Z.2.2.2.1 i), vI k] st (fJ0_charAt_5068e i k st) := by
  refine z_start (own := RJ0) rfl (by decide +kernel) (Nat.le_of_ble_eq_true rfl) rfl (fun p e s m args below meth c res Q A X hK hr hlocks hQ => ?_)
  refine z_aloadA_n X (q := 0) dJ0_charAt_5068e_0 rfl rfl ?_
  refine z_eq (co1 := (some ((1 : Int32), st)).bind fun q => (if q.1 = 0 then none else (fJ0_charAt_5068e i k q.2).bind fun q2 => if narrow .char (.int q2.1) = .int q2.1 then some (q2.1, q2.2) else none)) (by
    show _ = (if (1 : Int32) = 0 then none else _)
    rw [if_neg (by decide)]
    unfold fJ0_charAt_5068e
    by_cases hk : k < 0 ∨ zLen.getD i 0 ≤ k.toNatClampNeg
    · simp only [if_pos hk]
      rfl
    · simp only [if_neg hk, Option.bind_some, if_pos (pk_nc _)]
      exact (if_neg (by decide)).symm) ?_
  refine z_callA X hK (As := []) hi (kJ0_isLatin1 l Z sp b x i hi st) hk_J0_492 ⟨rfl, rfl⟩ hd_J0_isLatin1_aae02 ⟨Nat.le_of_ble_eq_true rfl, Nat.le_of_ble_eq_true rfl⟩ ⟨Nat.le_of_ble_eq_true rfl, Nat.le_of_ble_eq_true rfl⟩ rfl rfl (Nat.le_of_ble_eq_true rfl) dJ0_charAt_5068e_1 (fun q => ?_)
  refine z_if_eq X (tgt := 16) dJ0_charAt_5068e_4 (by decide) (fun _ => z_none) (fun _ => ?_)
  refine z_aloadA_n X (q := 0) dJ0_charAt_5068e_7 rfl rfl ?_
  refine z_strval X hK hi hf_J0_9 dJ0_charAt_5068e_8 ?_
  refine z_iload_n X (q := 1) dJ0_charAt_5068e_11 rfl rfl ?_
  refine z_callS X hK (As := [vA _, vI k]) (kJ1_charAt l Z sp b x i hi k _) hk_J0_495 ⟨rfl, rfl⟩ hd_J1_charAt_3b067.2 ⟨Nat.le_of_ble_eq_true rfl, Nat.le_of_ble_eq_true rfl⟩ ⟨Nat.le_of_ble_eq_true rfl, Nat.le_of_ble_eq_true rfl⟩ rfl rfl (Nat.le_of_ble_eq_true rfl) dJ0_charAt_5068e_12 (fun q2 => ?_)
  refine z_ite (fun hn => ?_) (fun _ => z_none)
  subst hQ; exact z_nret X hlocks hr hn dJ0_charAt_5068e_15
