theorem zw_236 : Cond.methodLink RX2 96 yX4_add ∈ wsL_law := zr_33 _ (by decide +kernel)
theorem hk_X2_96 : ∀ w ∈ ([Cond.methodLink RX2 96 yX4_add, Cond.instanceMethod yX4_add, Cond.selects RX4 yX4_add yX4_add, Cond.initialized RX4, Cond.code yX4_add cX4_add 2 none] : List Cond), w ∈ wsL_law := List.forall_mem_cons.mpr ⟨zw_236, List.forall_mem_cons.mpr ⟨zw_58, List.forall_mem_cons.mpr ⟨zw_59, List.forall_mem_cons.mpr ⟨zw_55, List.forall_mem_cons.mpr ⟨zw_60, fun _ h => absurd h List.not_mem_nil⟩⟩⟩⟩⟩
theorem zw_237 : Cond.fieldLink RX2 25 "WellGivesOther$Reader" "text" "LWellGivesOther$Text;" ∈ wsL_law := zr_27 _ (by decide +kernel)
theorem hf_X2_25 : Cond.fieldLink RX2 25 "WellGivesOther$Reader" "text" "LWellGivesOther$Text;" ∈ wsL_law := zw_237
abbrev rmX2_add : Room := { frames := 2, cells := 0, slots := 0, locals := 61 }
def fX2_add (this : Nat) (a1 : Int32) (st : zS) : Option (Unit × zS) :=
  (zok spX st (some this) 2).bind fun o1 => if (st.2.2.2 o1 1) = none then (some ((), st)) else ((zok spX st (some this) 2).bind fun o2 => (zok spX st (st.2.2.2 o2 1) 4).bind fun o4 => (fX4_add o4 a1 st).bind fun q3 => some ((), q3.2))
set_option maxRecDepth 100000 in
set_option maxHeartbeats 4000000 in
theorem kX2_add (l : Launch) (Z : zZ) (b : Nat) (x : Option Nat) (this : Nat) (a1 : Int32) (st : zS) : zC l Z spX b x yX2_add (.code yX2_add cX2_add 2 none) (rmX2_add) rV [vP (some this), vI a1] st (fX2_add this a1 st) := by
  refine z_start (own := RX2) rfl (by decide +kernel) (Nat.le_of_ble_eq_true rfl) rfl (fun p e s m args below meth c res Q A X hK hr hlocks hQ => ?_)
  rw [fX2_add]
  refine z_aload_n X (q := 0) dX2_add_0 rfl rfl ?_
  refine z_getr X hK (N := 5) (ci := 2) (k := 1) rfl (by decide) inlX2 (by decide) hf_X2_25 rfl spX_X2 rfl dX2_add_1 (fun o1 _ => ?_)
  refine z_ifnull X (tgt := 15) dX2_add_4 (by decide) (fun _ => ?_) (fun _ => ?_)
  · subst hQ; exact z_vret X hlocks hr dX2_add_15
  · refine z_aload_n X (q := 0) dX2_add_7 rfl rfl ?_
    refine z_getr X hK (N := 5) (ci := 2) (k := 1) rfl (by decide) inlX2 (by decide) hf_X2_25 rfl spX_X2 rfl dX2_add_8 (fun o2 _ => ?_)
    refine z_iload_n X (q := 1) dX2_add_11 rfl rfl ?_
    refine z_callV X hK (As := [vI a1]) (ci := 4) rfl (by decide) (fun o => (kX4_add l Z  b x o _ _)) hk_X2_96 ⟨rfl, rfl⟩ hd_X4_add ⟨Nat.le_of_ble_eq_true rfl, Nat.le_of_ble_eq_true rfl⟩ ⟨Nat.le_of_ble_eq_true rfl, Nat.le_of_ble_eq_true rfl⟩ rfl rfl (Nat.le_of_ble_eq_true rfl) dX2_add_12 (fun _ q3 _ => ?_)
    subst hQ; exact z_vret X hlocks hr dX2_add_15
theorem zw_238 : Cond.methodLink RX2 37 yX5_sortOf ∈ wsL_law := zr_31 _ (by decide +kernel)
theorem zw_239 : Cond.instanceMethod yX5_sortOf ∈ wsL_law := zr_31 _ (by decide +kernel)
theorem zw_240 : Cond.selects RX5 yX5_sortOf yX5_sortOf ∈ wsL_law := zr_31 _ (by decide +kernel)
theorem zw_241 : Cond.code yX5_sortOf cX5_sortOf 2 (some .int) ∈ wsL_law := zr_31 _ (by decide +kernel)
theorem hk_X2_37 : ∀ w ∈ ([Cond.methodLink RX2 37 yX5_sortOf, Cond.instanceMethod yX5_sortOf, Cond.selects RX5 yX5_sortOf yX5_sortOf, Cond.initialized RX5, Cond.code yX5_sortOf cX5_sortOf 2 (some .int)] : List Cond), w ∈ wsL_law := List.forall_mem_cons.mpr ⟨zw_238, List.forall_mem_cons.mpr ⟨zw_239, List.forall_mem_cons.mpr ⟨zw_240, List.forall_mem_cons.mpr ⟨zw_90, List.forall_mem_cons.mpr ⟨zw_241, fun _ h => absurd h List.not_mem_nil⟩⟩⟩⟩⟩
theorem hd_X5_sortOf : yX5_sortOf.cls = RX5 ∧ yX5_sortOf.cls ≠ "java/lang/invoke/MethodHandle" ∧ yX5_sortOf.cls ≠ "java/lang/invoke/VarHandle" ∧ (parseMethodDescriptor yX5_sortOf.desc).map (fun d => d.parameters.length) = some 1 := by decide +kernel
theorem zw_242 : Cond.fieldLink RX2 14 "WellGivesOther$Reader" "tokens" "LWellGivesOther$Tokens;" ∈ wsL_law := zr_3 _ (by decide +kernel)
theorem hf_X2_14 : Cond.fieldLink RX2 14 "WellGivesOther$Reader" "tokens" "LWellGivesOther$Tokens;" ∈ wsL_law := zw_242
theorem zw_243 : Cond.fieldLink RX2 33 "WellGivesOther$Reader" "at" "I" ∈ wsL_law := zr_27 _ (by decide +kernel)
theorem hf_X2_33 : Cond.fieldLink RX2 33 "WellGivesOther$Reader" "at" "I" ∈ wsL_law := zw_243
theorem zw_244 : Cond.fieldLink RX2 41 "WellGivesOther$Reader" "token" "I" ∈ wsL_law := zr_28 _ (by decide +kernel)
theorem hf_X2_41 : Cond.fieldLink RX2 41 "WellGivesOther$Reader" "token" "I" ∈ wsL_law := zw_244
abbrev rmX2_advance : Room := { frames := 2, cells := 0, slots := 0, locals := 61 }
def fX2_advance (this : Nat) (st : zS) : Option (Unit × zS) :=
  (zok spX st (some this) 2).bind fun o1 => (zok spX st (some this) 2).bind fun o2 => zlet (zp st o2 2 ((st.2.1 o1 2) + (1 : Int32))) fun st3 => (zok spX st3 (some this) 2).bind fun o4 => (zok spX st3 (some this) 2).bind fun o5 => (zok spX st3 (st3.2.2.2 o4 0) 5).bind fun o9 => (fX5_sortOf o9 (st3.2.1 o5 2) st3).bind fun q6 => (zok spX q6.2 (some this) 2).bind fun o7 => zlet (zp q6.2 o7 3 q6.1) fun st8 => some ((), st8)
set_option maxRecDepth 100000 in
set_option maxHeartbeats 4000000 in
theorem kX2_advance (l : Launch) (Z : zZ) (b : Nat) (x : Option Nat) (this : Nat) (st : zS) : zC l Z spX b x yX2_advance (.code yX2_advance cX2_advance 1 none) (rmX2_advance) rV [vP (some this)] st (fX2_advance this st) := by
  refine z_start (own := RX2) rfl (by decide +kernel) (Nat.le_of_ble_eq_true rfl) rfl (fun p e s m args below meth c res Q A X hK hr hlocks hQ => ?_)
  rw [fX2_advance]
  refine z_aload_n X (q := 0) dX2_advance_0 rfl rfl ?_
  refine z_dup X dX2_advance_1 rfl ?_
  refine z_geti X hK (N := 5) (ci := 2) (k := 2) rfl (by decide) inlX2 (by decide) hf_X2_33 rfl spX_X2 rfl dX2_advance_2 (fun o1 _ => ?_)
  refine z_iconst X (v := (1 : Int32)) dX2_advance_5 (by decide) ?_
  refine z_iadd X dX2_advance_6 ?_
  refine z_puti X hK (N := 5) (ci := 2) (k := 2) rfl (by decide) inlX2 tyX2 tyX2_ok nmX2 (by decide) hf_X2_33 rfl rfl spX_X2 rfl (by decide +kernel) dX2_advance_7 (fun o2 st3 _ => ?_)
  refine z_aload_n X (q := 0) dX2_advance_10 rfl rfl ?_
  refine z_aload_n X (q := 0) dX2_advance_11 rfl rfl ?_
  refine z_getr X hK (N := 5) (ci := 2) (k := 0) rfl (by decide) inlX2 (by decide) hf_X2_14 rfl spX_X2 rfl dX2_advance_12 (fun o4 _ => ?_)
  refine z_aload_n X (q := 0) dX2_advance_15 rfl rfl ?_
  refine z_geti X hK (N := 5) (ci := 2) (k := 2) rfl (by decide) inlX2 (by decide) hf_X2_33 rfl spX_X2 rfl dX2_advance_16 (fun o5 _ => ?_)
  refine z_callV X hK (As := [vI (st3.2.1 o5 2)]) (ci := 5) rfl (by decide) (fun o => (kX5_sortOf l Z  b x o _ _)) hk_X2_37 ⟨rfl, rfl⟩ hd_X5_sortOf ⟨Nat.le_of_ble_eq_true rfl, Nat.le_of_ble_eq_true rfl⟩ ⟨Nat.le_of_ble_eq_true rfl, Nat.le_of_ble_eq_true rfl⟩ rfl rfl (Nat.le_of_ble_eq_true rfl) dX2_advance_19 (fun _ q6 _ => ?_)
  refine z_puti X hK (N := 5) (ci := 2) (k := 3) rfl (by decide) inlX2 tyX2 tyX2_ok nmX2 (by decide) hf_X2_41 rfl rfl spX_X2 rfl (by decide +kernel) dX2_advance_22 (fun o7 st8 _ => ?_)
  subst hQ; exact z_vret X hlocks hr dX2_advance_25
theorem zw_245 : Cond.methodLink RX2 93 yX5_startOf ∈ wsL_law := zr_32 _ (by decide +kernel)
theorem zw_246 : Cond.instanceMethod yX5_startOf ∈ wsL_law := zr_32 _ (by decide +kernel)
theorem zw_247 : Cond.selects RX5 yX5_startOf yX5_startOf ∈ wsL_law := zr_32 _ (by decide +kernel)
theorem zw_248 : Cond.code yX5_startOf cX5_startOf 2 (some .int) ∈ wsL_law := zr_32 _ (by decide +kernel)
theorem hk_X2_93 : ∀ w ∈ ([Cond.methodLink RX2 93 yX5_startOf, Cond.instanceMethod yX5_startOf, Cond.selects RX5 yX5_startOf yX5_startOf, Cond.initialized RX5, Cond.code yX5_startOf cX5_startOf 2 (some .int)] : List Cond), w ∈ wsL_law := List.forall_mem_cons.mpr ⟨zw_245, List.forall_mem_cons.mpr ⟨zw_246, List.forall_mem_cons.mpr ⟨zw_247, List.forall_mem_cons.mpr ⟨zw_90, List.forall_mem_cons.mpr ⟨zw_248, fun _ h => absurd h List.not_mem_nil⟩⟩⟩⟩⟩
theorem hd_X5_startOf : yX5_startOf.cls = RX5 ∧ yX5_startOf.cls ≠ "java/lang/invoke/MethodHandle" ∧ yX5_startOf.cls ≠ "java/lang/invoke/VarHandle" ∧ (parseMethodDescriptor yX5_startOf.desc).map (fun d => d.parameters.length) = some 1 := by decide +kernel
theorem zw_249 : Cond.fieldLink RX2 44 "WellGivesOther$Reader" "fault" "I" ∈ wsL_law := zr_28 _ (by decide +kernel)
theorem hf_X2_44 : Cond.fieldLink RX2 44 "WellGivesOther$Reader" "fault" "I" ∈ wsL_law := zw_249
abbrev rmX2_fail : Room := { frames := 2, cells := 0, slots := 0, locals := 61 }
def fX2_fail (this : Nat) (st : zS) : Option (Unit × zS) :=
  (zok spX st (some this) 2).bind fun o1 => if (st.2.1 o1 4) = (-1 : Int32) then ((zok spX st (some this) 2).bind fun o4 => (zok spX st (some this) 2).bind fun o5 => (zok spX st (st.2.2.2 o4 0) 5).bind fun o11 => (fX5_startOf o11 (st.2.1 o5 2) st).bind fun q6 => (zok spX q6.2 (some this) 2).bind fun o7 => zlet (zp q6.2 o7 4 q6.1) fun st8 => (zok spX st8 (some this) 2).bind fun o9 => zlet (zp st8 o9 3 (9 : Int32)) fun st10 => some ((), st10)) else ((zok spX st (some this) 2).bind fun o2 => zlet (zp st o2 3 (9 : Int32)) fun st3 => some ((), st3))
set_option maxRecDepth 100000 in
set_option maxHeartbeats 4000000 in
theorem kX2_fail (l : Launch) (Z : zZ) (b : Nat) (x : Option Nat) (this : Nat) (st : zS) : zC l Z spX b x yX2_fail (.code yX2_fail cX2_fail 1 none) (rmX2_fail) rV [vP (some this)] st (fX2_fail this st) := by
  refine z_start (own := RX2) rfl (by decide +kernel) (Nat.le_of_ble_eq_true rfl) rfl (fun p e s m args below meth c res Q A X hK hr hlocks hQ => ?_)
  rw [fX2_fail]
  refine z_aload_n X (q := 0) dX2_fail_0 rfl rfl ?_
  refine z_geti X hK (N := 5) (ci := 2) (k := 4) rfl (by decide) inlX2 (by decide) hf_X2_44 rfl spX_X2 rfl dX2_fail_1 (fun o1 _ => ?_)
  refine z_iconst X (v := (-1 : Int32)) dX2_fail_4 (by decide) ?_
  refine z_icmp_ne X (tgt := 23) dX2_fail_5 (by decide) (fun _ => ?_) (fun _ => ?_)
  · refine z_aload_n X (q := 0) dX2_fail_23 rfl rfl ?_
    refine z_bipush X (v := (9 : Int32)) dX2_fail_24 (by decide) ?_
    refine z_puti X hK (N := 5) (ci := 2) (k := 3) rfl (by decide) inlX2 tyX2 tyX2_ok nmX2 (by decide) hf_X2_41 rfl rfl spX_X2 rfl (by decide +kernel) dX2_fail_26 (fun o2 st3 _ => ?_)
    subst hQ; exact z_vret X hlocks hr dX2_fail_29
  · refine z_aload_n X (q := 0) dX2_fail_8 rfl rfl ?_
    refine z_aload_n X (q := 0) dX2_fail_9 rfl rfl ?_
    refine z_getr X hK (N := 5) (ci := 2) (k := 0) rfl (by decide) inlX2 (by decide) hf_X2_14 rfl spX_X2 rfl dX2_fail_10 (fun o4 _ => ?_)
    refine z_aload_n X (q := 0) dX2_fail_13 rfl rfl ?_
    refine z_geti X hK (N := 5) (ci := 2) (k := 2) rfl (by decide) inlX2 (by decide) hf_X2_33 rfl spX_X2 rfl dX2_fail_14 (fun o5 _ => ?_)
    refine z_callV X hK (As := [vI (st.2.1 o5 2)]) (ci := 5) rfl (by decide) (fun o => (kX5_startOf l Z  b x o _ _)) hk_X2_93 ⟨rfl, rfl⟩ hd_X5_startOf ⟨Nat.le_of_ble_eq_true rfl, Nat.le_of_ble_eq_true rfl⟩ ⟨Nat.le_of_ble_eq_true rfl, Nat.le_of_ble_eq_true rfl⟩ rfl rfl (Nat.le_of_ble_eq_true rfl) dX2_fail_17 (fun _ q6 _ => ?_)
    refine z_puti X hK (N := 5) (ci := 2) (k := 4) rfl (by decide) inlX2 tyX2 tyX2_ok nmX2 (by decide) hf_X2_44 rfl rfl spX_X2 rfl (by decide +kernel) dX2_fail_20 (fun o7 st8 _ => ?_)
    refine z_aload_n X (q := 0) dX2_fail_23 rfl rfl ?_
    refine z_bipush X (v := (9 : Int32)) dX2_fail_24 (by decide) ?_
    refine z_puti X hK (N := 5) (ci := 2) (k := 3) rfl (by decide) inlX2 tyX2 tyX2_ok nmX2 (by decide) hf_X2_41 rfl rfl spX_X2 rfl (by decide +kernel) dX2_fail_26 (fun o9 st10 _ => ?_)
    subst hQ; exact z_vret X hlocks hr dX2_fail_29
theorem zw_250 : Cond.methodLink RX2 50 yX2_fail ∈ wsL_law := zr_32 _ (by decide +kernel)
theorem zw_251 : Cond.instanceMethod yX2_fail ∈ wsL_law := zr_32 _ (by decide +kernel)
theorem zw_252 : Cond.selects RX2 yX2_fail yX2_fail ∈ wsL_law := zr_32 _ (by decide +kernel)
theorem zw_253 : Cond.initialized RX2 ∈ wsL_law := zr_2 _ (by decide +kernel)
theorem zw_254 : Cond.code yX2_fail cX2_fail 1 none ∈ wsL_law := zr_32 _ (by decide +kernel)
theorem hk_X2_50 : ∀ w ∈ ([Cond.methodLink RX2 50 yX2_fail, Cond.instanceMethod yX2_fail, Cond.selects RX2 yX2_fail yX2_fail, Cond.initialized RX2, Cond.code yX2_fail cX2_fail 1 none] : List Cond), w ∈ wsL_law := List.forall_mem_cons.mpr ⟨zw_250, List.forall_mem_cons.mpr ⟨zw_251, List.forall_mem_cons.mpr ⟨zw_252, List.forall_mem_cons.mpr ⟨zw_253, List.forall_mem_cons.mpr ⟨zw_254, fun _ h => absurd h List.not_mem_nil⟩⟩⟩⟩⟩
theorem zw_255 : Cond.methodLink RX2 65 yX2_advance ∈ wsL_law := zr_32 _ (by decide +kernel)
theorem zw_256 : Cond.instanceMethod yX2_advance ∈ wsL_law := zr_32 _ (by decide +kernel)
theorem zw_257 : Cond.selects RX2 yX2_advance yX2_advance ∈ wsL_law := zr_32 _ (by decide +kernel)
theorem zw_258 : Cond.code yX2_advance cX2_advance 1 none ∈ wsL_law := zr_32 _ (by decide +kernel)
theorem hk_X2_65 : ∀ w ∈ ([Cond.methodLink RX2 65 yX2_advance, Cond.instanceMethod yX2_advance, Cond.selects RX2 yX2_advance yX2_advance, Cond.initialized RX2, Cond.code yX2_advance cX2_advance 1 none] : List Cond), w ∈ wsL_law := List.forall_mem_cons.mpr ⟨zw_255, List.forall_mem_cons.mpr ⟨zw_256, List.forall_mem_cons.mpr ⟨zw_257, List.forall_mem_cons.mpr ⟨zw_253, List.forall_mem_cons.mpr ⟨zw_258, fun _ h => absurd h List.not_mem_nil⟩⟩⟩⟩⟩
theorem hd_X2_advance : yX2_advance.cls = RX2 ∧ yX2_advance.cls ≠ "java/lang/invoke/MethodHandle" ∧ yX2_advance.cls ≠ "java/lang/invoke/VarHandle" ∧ (parseMethodDescriptor yX2_advance.desc).map (fun d => d.parameters.length) = some 0 := by decide +kernel
theorem hd_X2_fail : yX2_fail.cls = RX2 ∧ yX2_fail.cls ≠ "java/lang/invoke/MethodHandle" ∧ yX2_fail.cls ≠ "java/lang/invoke/VarHandle" ∧ (parseMethodDescriptor yX2_fail.desc).map (fun d => d.parameters.length) = some 0 := by decide +kernel
abbrev rmX2_expect : Room := { frames := 3, cells := 0, slots := 0, locals := 81 }
def fX2_expect (this : Nat) (a1 : Int32) (st : zS) : Option (Unit × zS) :=
  (zok spX st (some this) 2).bind fun o1 => if (st.2.1 o1 3) = a1 then ((zok spX st (some this) 2).bind fun o5 => (fX2_advance o5 st).bind fun q4 => some ((), q4.2)) else ((zok spX st (some this) 2).bind fun o3 => (fX2_fail o3 st).bind fun q2 => some ((), q2.2))
set_option maxRecDepth 100000 in
set_option maxHeartbeats 4000000 in
theorem kX2_expect (l : Launch) (Z : zZ) (b : Nat) (x : Option Nat) (this : Nat) (a1 : Int32) (st : zS) : zC l Z spX b x yX2_expect (.code yX2_expect cX2_expect 2 none) (rmX2_expect) rV [vP (some this), vI a1] st (fX2_expect this a1 st) := by
  refine z_start (own := RX2) rfl (by decide +kernel) (Nat.le_of_ble_eq_true rfl) rfl (fun p e s m args below meth c res Q A X hK hr hlocks hQ => ?_)
  rw [fX2_expect]
  refine z_aload_n X (q := 0) dX2_expect_0 rfl rfl ?_
  refine z_geti X hK (N := 5) (ci := 2) (k := 3) rfl (by decide) inlX2 (by decide) hf_X2_41 rfl spX_X2 rfl dX2_expect_1 (fun o1 _ => ?_)
  refine z_iload_n X (q := 1) dX2_expect_4 rfl rfl ?_
  refine z_icmp_ne X (tgt := 15) dX2_expect_5 (by decide) (fun _ => ?_) (fun _ => ?_)
  · refine z_aload_n X (q := 0) dX2_expect_15 rfl rfl ?_
    refine z_callV X hK (As := []) (ci := 2) rfl (by decide) (fun o => (kX2_fail l Z  b x o _)) hk_X2_50 ⟨rfl, rfl⟩ hd_X2_fail ⟨Nat.le_of_ble_eq_true rfl, Nat.le_of_ble_eq_true rfl⟩ ⟨Nat.le_of_ble_eq_true rfl, Nat.le_of_ble_eq_true rfl⟩ rfl rfl (Nat.le_of_ble_eq_true rfl) dX2_expect_16 (fun _ q2 _ => ?_)
    subst hQ; exact z_vret X hlocks hr dX2_expect_19
  · refine z_aload_n X (q := 0) dX2_expect_8 rfl rfl ?_
    refine z_callV X hK (As := []) (ci := 2) rfl (by decide) (fun o => (kX2_advance l Z  b x o _)) hk_X2_65 ⟨rfl, rfl⟩ hd_X2_advance ⟨Nat.le_of_ble_eq_true rfl, Nat.le_of_ble_eq_true rfl⟩ ⟨Nat.le_of_ble_eq_true rfl, Nat.le_of_ble_eq_true rfl⟩ rfl rfl (Nat.le_of_ble_eq_true rfl) dX2_expect_9 (fun _ q4 _ => ?_)
    refine z_goto X (tgt := 19) dX2_expect_12 (by decide) ?_
    subst hQ; exact z_vret X hlocks hr dX2_expect_19
abbrev rmX2_mayOpen : Room := { frames := 3, cells := 0, slots := 0, locals := 81 }
def fX2_mayOpen (this : Nat) (a1 : Int32) (st : zS) : Option (Int32 × zS) :=
  if (5 : Int32) ≤ a1 then ((zok spX st (some this) 2).bind fun o2 => (fX2_fail o2 st).bind fun q1 => some ((0 : Int32), q1.2)) else (some ((1 : Int32), st))
set_option maxRecDepth 100000 in
set_option maxHeartbeats 4000000 in
theorem kX2_mayOpen (l : Launch) (Z : zZ) (b : Nat) (x : Option Nat) (this : Nat) (a1 : Int32) (st : zS) : zC l Z spX b x yX2_mayOpen (.code yX2_mayOpen cX2_mayOpen 2 (some .boolean)) (rmX2_mayOpen) rI [vP (some this), vI a1] st (fX2_mayOpen this a1 st) := by
  refine z_start (own := RX2) rfl (by decide +kernel) (Nat.le_of_ble_eq_true rfl) rfl (fun p e s m args below meth c res Q A X hK hr hlocks hQ => ?_)
  rw [fX2_mayOpen]
  refine z_iload_n X (q := 1) dX2_mayOpen_0 rfl rfl ?_
  refine z_iconst X (v := (5 : Int32)) dX2_mayOpen_1 (by decide) ?_
  refine z_icmp_ge X (tgt := 7) dX2_mayOpen_2 (by decide) (fun _ => ?_) (fun _ => ?_)
  · refine z_aload_n X (q := 0) dX2_mayOpen_7 rfl rfl ?_
    refine z_callV X hK (As := []) (ci := 2) rfl (by decide) (fun o => (kX2_fail l Z  b x o _)) hk_X2_50 ⟨rfl, rfl⟩ hd_X2_fail ⟨Nat.le_of_ble_eq_true rfl, Nat.le_of_ble_eq_true rfl⟩ ⟨Nat.le_of_ble_eq_true rfl, Nat.le_of_ble_eq_true rfl⟩ rfl rfl (Nat.le_of_ble_eq_true rfl) dX2_mayOpen_8 (fun _ q1 _ => ?_)
    refine z_iconst X (v := (0 : Int32)) dX2_mayOpen_11 (by decide) ?_
    subst hQ; exact z_zretc X hlocks hr (by decide) dX2_mayOpen_12
  · refine z_iconst X (v := (1 : Int32)) dX2_mayOpen_5 (by decide) ?_
    subst hQ; exact z_zretc X hlocks hr (by decide) dX2_mayOpen_6
theorem zw_259 : Cond.methodLink RX2 53 yX2_expect ∈ wsL_law := zr_32 _ (by decide +kernel)
theorem zw_260 : Cond.instanceMethod yX2_expect ∈ wsL_law := zr_32 _ (by decide +kernel)
theorem zw_261 : Cond.selects RX2 yX2_expect yX2_expect ∈ wsL_law := zr_32 _ (by decide +kernel)
theorem zw_262 : Cond.code yX2_expect cX2_expect 2 none ∈ wsL_law := zr_32 _ (by decide +kernel)
theorem hk_X2_53 : ∀ w ∈ ([Cond.methodLink RX2 53 yX2_expect, Cond.instanceMethod yX2_expect, Cond.selects RX2 yX2_expect yX2_expect, Cond.initialized RX2, Cond.code yX2_expect cX2_expect 2 none] : List Cond), w ∈ wsL_law := List.forall_mem_cons.mpr ⟨zw_259, List.forall_mem_cons.mpr ⟨zw_260, List.forall_mem_cons.mpr ⟨zw_261, List.forall_mem_cons.mpr ⟨zw_253, List.forall_mem_cons.mpr ⟨zw_262, fun _ h => absurd h List.not_mem_nil⟩⟩⟩⟩⟩
theorem zw_263 : Cond.methodLink RX2 56 yX2_readEither ∈ wsL_law := zr_32 _ (by decide +kernel)
theorem zw_264 : Cond.instanceMethod yX2_readEither ∈ wsL_law := zr_32 _ (by decide +kernel)
theorem zw_265 : Cond.selects RX2 yX2_readEither yX2_readEither ∈ wsL_law := zr_32 _ (by decide +kernel)
theorem zw_266 : Cond.code yX2_readEither cX2_readEither 3 none ∈ wsL_law := zr_32 _ (by decide +kernel)
theorem hk_X2_56 : ∀ w ∈ ([Cond.methodLink RX2 56 yX2_readEither, Cond.instanceMethod yX2_readEither, Cond.selects RX2 yX2_readEither yX2_readEither, Cond.initialized RX2, Cond.code yX2_readEither cX2_readEither 3 none] : List Cond), w ∈ wsL_law := List.forall_mem_cons.mpr ⟨zw_263, List.forall_mem_cons.mpr ⟨zw_264, List.forall_mem_cons.mpr ⟨zw_265, List.forall_mem_cons.mpr ⟨zw_253, List.forall_mem_cons.mpr ⟨zw_266, fun _ h => absurd h List.not_mem_nil⟩⟩⟩⟩⟩
theorem zw_267 : Cond.methodLink RX2 68 yX2_add ∈ wsL_law := zr_33 _ (by decide +kernel)
theorem zw_268 : Cond.instanceMethod yX2_add ∈ wsL_law := zr_33 _ (by decide +kernel)
theorem zw_269 : Cond.selects RX2 yX2_add yX2_add ∈ wsL_law := zr_33 _ (by decide +kernel)
theorem zw_270 : Cond.code yX2_add cX2_add 2 none ∈ wsL_law := zr_33 _ (by decide +kernel)
theorem hk_X2_68 : ∀ w ∈ ([Cond.methodLink RX2 68 yX2_add, Cond.instanceMethod yX2_add, Cond.selects RX2 yX2_add yX2_add, Cond.initialized RX2, Cond.code yX2_add cX2_add 2 none] : List Cond), w ∈ wsL_law := List.forall_mem_cons.mpr ⟨zw_267, List.forall_mem_cons.mpr ⟨zw_268, List.forall_mem_cons.mpr ⟨zw_269, List.forall_mem_cons.mpr ⟨zw_253, List.forall_mem_cons.mpr ⟨zw_270, fun _ h => absurd h List.not_mem_nil⟩⟩⟩⟩⟩
theorem zw_271 : Cond.methodLink RX2 74 yX2_mayOpen ∈ wsL_law := zr_33 _ (by decide +kernel)
theorem zw_272 : Cond.instanceMethod yX2_mayOpen ∈ wsL_law := zr_33 _ (by decide +kernel)
theorem zw_273 : Cond.selects RX2 yX2_mayOpen yX2_mayOpen ∈ wsL_law := zr_33 _ (by decide +kernel)
theorem zw_274 : Cond.code yX2_mayOpen cX2_mayOpen 2 (some .boolean) ∈ wsL_law := zr_33 _ (by decide +kernel)
theorem hk_X2_74 : ∀ w ∈ ([Cond.methodLink RX2 74 yX2_mayOpen, Cond.instanceMethod yX2_mayOpen, Cond.selects RX2 yX2_mayOpen yX2_mayOpen, Cond.initialized RX2, Cond.code yX2_mayOpen cX2_mayOpen 2 (some .boolean)] : List Cond), w ∈ wsL_law := List.forall_mem_cons.mpr ⟨zw_271, List.forall_mem_cons.mpr ⟨zw_272, List.forall_mem_cons.mpr ⟨zw_273, List.forall_mem_cons.mpr ⟨zw_253, List.forall_mem_cons.mpr ⟨zw_274, fun _ h => absurd h List.not_mem_nil⟩⟩⟩⟩⟩
theorem zw_275 : Cond.methodLink RX2 84 yX2_readOne ∈ wsL_law := zr_34 _ (by decide +kernel)
theorem zw_276 : Cond.instanceMethod yX2_readOne ∈ wsL_law := zr_34 _ (by decide +kernel)
theorem zw_277 : Cond.selects RX2 yX2_readOne yX2_readOne ∈ wsL_law := zr_34 _ (by decide +kernel)
theorem zw_278 : Cond.code yX2_readOne cX2_readOne 2 none ∈ wsL_law := zr_33 _ (by decide +kernel)
theorem hk_X2_84 : ∀ w ∈ ([Cond.methodLink RX2 84 yX2_readOne, Cond.instanceMethod yX2_readOne, Cond.selects RX2 yX2_readOne yX2_readOne, Cond.initialized RX2, Cond.code yX2_readOne cX2_readOne 2 none] : List Cond), w ∈ wsL_law := List.forall_mem_cons.mpr ⟨zw_275, List.forall_mem_cons.mpr ⟨zw_276, List.forall_mem_cons.mpr ⟨zw_277, List.forall_mem_cons.mpr ⟨zw_253, List.forall_mem_cons.mpr ⟨zw_278, fun _ h => absurd h List.not_mem_nil⟩⟩⟩⟩⟩
theorem zw_279 : Cond.methodLink RX2 87 yX4_isName ∈ wsL_law := zr_33 _ (by decide +kernel)
theorem zw_280 : Cond.static yX4_isName ∈ wsL_law := zr_33 _ (by decide +kernel)
theorem zw_281 : Cond.code yX4_isName cX4_isName 1 (some .boolean) ∈ wsL_law := zr_33 _ (by decide +kernel)
theorem hk_X2_87 : ∀ w ∈ ([Cond.methodLink RX2 87 yX4_isName, Cond.static yX4_isName, Cond.initialized RX4, Cond.code yX4_isName cX4_isName 1 (some .boolean)] : List Cond), w ∈ wsL_law := List.forall_mem_cons.mpr ⟨zw_279, List.forall_mem_cons.mpr ⟨zw_280, List.forall_mem_cons.mpr ⟨zw_55, List.forall_mem_cons.mpr ⟨zw_281, fun _ h => absurd h List.not_mem_nil⟩⟩⟩⟩
theorem zw_282 : Cond.methodLink RX2 90 yX5_valueOf ∈ wsL_law := zr_34 _ (by decide +kernel)
theorem zw_283 : Cond.instanceMethod yX5_valueOf ∈ wsL_law := zr_34 _ (by decide +kernel)
theorem zw_284 : Cond.selects RX5 yX5_valueOf yX5_valueOf ∈ wsL_law := zr_34 _ (by decide +kernel)
theorem zw_285 : Cond.code yX5_valueOf cX5_valueOf 2 (some .int) ∈ wsL_law := zr_34 _ (by decide +kernel)
theorem hk_X2_90 : ∀ w ∈ ([Cond.methodLink RX2 90 yX5_valueOf, Cond.instanceMethod yX5_valueOf, Cond.selects RX5 yX5_valueOf yX5_valueOf, Cond.initialized RX5, Cond.code yX5_valueOf cX5_valueOf 2 (some .int)] : List Cond), w ∈ wsL_law := List.forall_mem_cons.mpr ⟨zw_282, List.forall_mem_cons.mpr ⟨zw_283, List.forall_mem_cons.mpr ⟨zw_284, List.forall_mem_cons.mpr ⟨zw_90, List.forall_mem_cons.mpr ⟨zw_285, fun _ h => absurd h List.not_mem_nil⟩⟩⟩⟩⟩
theorem hd_X2_add : yX2_add.cls = RX2 ∧ yX2_add.cls ≠ "java/lang/invoke/MethodHandle" ∧ yX2_add.cls ≠ "java/lang/invoke/VarHandle" ∧ (parseMethodDescriptor yX2_add.desc).map (fun d => d.parameters.length) = some 1 := by decide +kernel
theorem hd_X2_expect : yX2_expect.cls = RX2 ∧ yX2_expect.cls ≠ "java/lang/invoke/MethodHandle" ∧ yX2_expect.cls ≠ "java/lang/invoke/VarHandle" ∧ (parseMethodDescriptor yX2_expect.desc).map (fun d => d.parameters.length) = some 1 := by decide +kernel
theorem hd_X2_mayOpen : yX2_mayOpen.cls = RX2 ∧ yX2_mayOpen.cls ≠ "java/lang/invoke/MethodHandle" ∧ yX2_mayOpen.cls ≠ "java/lang/invoke/VarHandle" ∧ (parseMethodDescriptor yX2_mayOpen.desc).map (fun d => d.parameters.length) = some 1 := by decide +kernel
theorem hd_X2_readEither : yX2_readEither.cls = RX2 ∧ yX2_readEither.cls ≠ "java/lang/invoke/MethodHandle" ∧ yX2_readEither.cls ≠ "java/lang/invoke/VarHandle" ∧ (parseMethodDescriptor yX2_readEither.desc).map (fun d => d.parameters.length) = some 1 := by decide +kernel
theorem hd_X2_readOne : yX2_readOne.cls = RX2 ∧ yX2_readOne.cls ≠ "java/lang/invoke/MethodHandle" ∧ yX2_readOne.cls ≠ "java/lang/invoke/VarHandle" ∧ (parseMethodDescriptor yX2_readOne.desc).map (fun d => d.parameters.length) = some 1 := by decide +kernel
theorem hd_X4_isName : yX4_isName.cls = RX4 ∧ yX4_isName.cls ≠ "java/lang/invoke/MethodHandle" ∧ yX4_isName.cls ≠ "java/lang/invoke/VarHandle" ∧ (parseMethodDescriptor yX4_isName.desc).map (fun d => d.parameters.length) = some 1 := by decide +kernel
theorem hd_X5_valueOf : yX5_valueOf.cls = RX5 ∧ yX5_valueOf.cls ≠ "java/lang/invoke/MethodHandle" ∧ yX5_valueOf.cls ≠ "java/lang/invoke/VarHandle" ∧ (parseMethodDescriptor yX5_valueOf.desc).map (fun d => d.parameters.length) = some 1 := by decide +kernel
abbrev rmX2_readOne := rmR
def fX2_readOne_j47 (gE : Nat → Int32 → zS → Option (Unit × zS)) (gO : Nat → Int32 → zS → Option (Unit × zS)) (this : Nat) (s0 : Option Nat) (s1 : Int32) (st : zS) : Option (Unit × zS) :=
  (zok spX st s0 2).bind fun o4 => (fX2_add o4 s1 st).bind fun q1 => (zok spX q1.2 (some this) 2).bind fun o3 => (fX2_advance o3 q1.2).bind fun q2 => some ((), q2.2)
def fX2_readOne_j19 (gE : Nat → Int32 → zS → Option (Unit × zS)) (gO : Nat → Int32 → zS → Option (Unit × zS)) (this : Nat) (st : zS) : Option (Unit × zS) :=
  (zok spX st (some this) 2).bind fun o5 => if (st.2.1 o5 3) = (7 : Int32) then ((zok spX st (some this) 2).bind fun o7 => (zok spX st (some this) 2).bind fun o8 => (zok spX st (st.2.2.2 o7 0) 5).bind fun o10 => (fX5_valueOf o10 (st.2.1 o8 2) st).bind fun q9 => fX2_readOne_j47 gE gO this (some this) q9.1 q9.2) else ((zok spX st (some this) 2).bind fun o6 => fX2_readOne_j47 gE gO this (some this) (st.2.1 o6 3) st)
def fX2_readOne_j131 (gE : Nat → Int32 → zS → Option (Unit × zS)) (gO : Nat → Int32 → zS → Option (Unit × zS)) (this : Nat) (st : zS) : Option (Unit × zS) :=
  (zok spX st (some this) 2).bind fun o12 => (fX2_fail o12 st).bind fun q11 => some ((), q11.2)
def fX2_readOne_j94 (gE : Nat → Int32 → zS → Option (Unit × zS)) (gO : Nat → Int32 → zS → Option (Unit × zS)) (this : Nat) (y1 : Int32) (st : zS) : Option (Unit × zS) :=
  (zok spX st (some this) 2).bind fun o13 => if (st.2.1 o13 3) = (40 : Int32) then ((zok spX st (some this) 2).bind fun o21 => (fX2_mayOpen o21 y1 st).bind fun q14 => if q14.1 = 0 then (fX2_readOne_j131 gE gO this q14.2) else ((zok spX q14.2 (some this) 2).bind fun o20 => (fX2_advance o20 q14.2).bind fun q15 => (zok spX q15.2 (some this) 2).bind fun o19 => (gE o19 (y1 + (1 : Int32)) q15.2).bind fun q16 => (zok spX q16.2 (some this) 2).bind fun o18 => (fX2_expect o18 (41 : Int32) q16.2).bind fun q17 => some ((), q17.2))) else (fX2_readOne_j131 gE gO this st)
def fX2_readOne (gE : Nat → Int32 → zS → Option (Unit × zS)) (gO : Nat → Int32 → zS → Option (Unit × zS)) (this : Nat) (a1 : Int32) (st : zS) : Option (Unit × zS) :=
  (zok spX st (some this) 2).bind fun o22 => if (st.2.1 o22 3) = (7 : Int32) then (fX2_readOne_j19 gE gO this st) else ((zok spX st (some this) 2).bind fun o23 => (fX4_isName (st.2.1 o23 3) st).bind fun q24 => if q24.1 = 0 then ((zok spX q24.2 (some this) 2).bind fun o25 => if (q24.2.2.1 o25 3) = (45 : Int32) then ((zok spX q24.2 (some this) 2).bind fun o33 => (fX2_mayOpen o33 a1 q24.2).bind fun q26 => if q26.1 = 0 then (fX2_readOne_j94 gE gO this a1 q26.2) else ((zok spX q26.2 (some this) 2).bind fun o32 => (fX2_advance o32 q26.2).bind fun q27 => (zok spX q27.2 (some this) 2).bind fun o31 => (gO o31 (a1 + (1 : Int32)) q27.2).bind fun q28 => (zok spX q28.2 (some this) 2).bind fun o30 => (fX2_add o30 (-19 : Int32) q28.2).bind fun q29 => some ((), q29.2))) else (fX2_readOne_j94 gE gO this a1 q24.2)) else (fX2_readOne_j19 gE gO this q24.2))
set_option maxRecDepth 100000 in
set_option maxHeartbeats 4000000 in
theorem kX2_readOne (l : Launch) (Z : zZ) (b : Nat) (x : Option Nat) (gE : Nat → Int32 → zS → Option (Unit × zS)) (gO : Nat → Int32 → zS → Option (Unit × zS)) (n : Nat) (nE : Nat) (hnE : nE ≤ n) (hE : ∀ (o : Nat) (a0 : Int32) (st : zS), zC l Z spX b x yX2_readEither (.code yX2_readEither cX2_readEither 3 none) (rmR nE) rV [vP (some o), vI a0] st (gE o a0 st)) (nO : Nat) (hnO : nO ≤ n) (hO : ∀ (o : Nat) (a0 : Int32) (st : zS), zC l Z spX b x yX2_readOne (.code yX2_readOne cX2_readOne 2 none) (rmR nO) rV [vP (some o), vI a0] st (gO o a0 st)) (this : Nat) (a1 : Int32) (st : zS) : zC l Z spX b x yX2_readOne (.code yX2_readOne cX2_readOne 2 none) (rmX2_readOne (n + 1)) rV [vP (some this), vI a1] st (fX2_readOne gE gO this a1 st) := by
  refine z_start (own := RX2) rfl (by decide +kernel) (Nat.le_of_ble_eq_true rfl) rfl (fun p e s m args below meth c res Q A X hK hr hlocks hQ => ?_)
  have J47 : ∀ (s0 : Option Nat) (s1 : Int32) (st : zS), zs p l e (rmX2_readOne (n + 1)) s m args below meth c Q Z spX b x A 2 0 0 res (fX2_readOne_j47 gE gO this s0 s1 st) 47 [(0, vP (some this))] [vI s1, vP s0] st := by
    intro s0 s1 st
    rw [fX2_readOne_j47]
    refine z_callV X hK (As := [vI s1]) (ci := 2) rfl (by decide) (fun o => (kX2_add l Z  b x o _ _)) hk_X2_68 ⟨rfl, rfl⟩ hd_X2_add (by constructor <;> simp only [rmR, rmX2_readOne, rmX2_add] <;> omega) ⟨Nat.le_of_ble_eq_true rfl, Nat.le_of_ble_eq_true rfl⟩ rfl rfl (Nat.le_of_ble_eq_true rfl) dX2_readOne_47 (fun _ q1 _ => ?_)
    refine z_aload_n X (q := 0) dX2_readOne_50 rfl rfl ?_
    refine z_callV X hK (As := []) (ci := 2) rfl (by decide) (fun o => (kX2_advance l Z  b x o _)) hk_X2_65 ⟨rfl, rfl⟩ hd_X2_advance (by constructor <;> simp only [rmR, rmX2_readOne, rmX2_advance] <;> omega) ⟨Nat.le_of_ble_eq_true rfl, Nat.le_of_ble_eq_true rfl⟩ rfl rfl (Nat.le_of_ble_eq_true rfl) dX2_readOne_51 (fun _ q2 _ => ?_)
    refine z_goto X (tgt := 135) dX2_readOne_54 (by decide) ?_
    subst hQ; exact z_vret X hlocks hr dX2_readOne_135
  have J19 : ∀ (st : zS), zs p l e (rmX2_readOne (n + 1)) s m args below meth c Q Z spX b x A 2 0 0 res (fX2_readOne_j19 gE gO this st) 19 [(0, vP (some this))] [] st := by
    intro  st
    rw [fX2_readOne_j19]
    refine z_aload_n X (q := 0) dX2_readOne_19 rfl rfl ?_
    refine z_aload_n X (q := 0) dX2_readOne_20 rfl rfl ?_
    refine z_geti X hK (N := 5) (ci := 2) (k := 3) rfl (by decide) inlX2 (by decide) hf_X2_41 rfl spX_X2 rfl dX2_readOne_21 (fun o5 _ => ?_)
    refine z_bipush X (v := (7 : Int32)) dX2_readOne_24 (by decide) ?_
    refine z_icmp_ne X (tgt := 43) dX2_readOne_26 (by decide) (fun _ => ?_) (fun _ => ?_)
    · refine z_aload_n X (q := 0) dX2_readOne_43 rfl rfl ?_
      refine z_geti X hK (N := 5) (ci := 2) (k := 3) rfl (by decide) inlX2 (by decide) hf_X2_41 rfl spX_X2 rfl dX2_readOne_44 (fun o6 _ => ?_)
      exact z_sub [0] (J47 _ _ _) rfl
    · refine z_aload_n X (q := 0) dX2_readOne_29 rfl rfl ?_
      refine z_getr X hK (N := 5) (ci := 2) (k := 0) rfl (by decide) inlX2 (by decide) hf_X2_14 rfl spX_X2 rfl dX2_readOne_30 (fun o7 _ => ?_)
      refine z_aload_n X (q := 0) dX2_readOne_33 rfl rfl ?_
      refine z_geti X hK (N := 5) (ci := 2) (k := 2) rfl (by decide) inlX2 (by decide) hf_X2_33 rfl spX_X2 rfl dX2_readOne_34 (fun o8 _ => ?_)
      refine z_callV X hK (As := [vI (st.2.1 o8 2)]) (ci := 5) rfl (by decide) (fun o => (kX5_valueOf l Z  b x o _ _)) hk_X2_90 ⟨rfl, rfl⟩ hd_X5_valueOf (by constructor <;> simp only [rmR, rmX2_readOne, rmX5_valueOf] <;> omega) ⟨Nat.le_of_ble_eq_true rfl, Nat.le_of_ble_eq_true rfl⟩ rfl rfl (Nat.le_of_ble_eq_true rfl) dX2_readOne_37 (fun _ q9 _ => ?_)
      refine z_goto X (tgt := 47) dX2_readOne_40 (by decide) ?_
      exact z_sub [0] (J47 _ _ _) rfl
  have J131 : ∀ (st : zS), zs p l e (rmX2_readOne (n + 1)) s m args below meth c Q Z spX b x A 2 0 0 res (fX2_readOne_j131 gE gO this st) 131 [(0, vP (some this))] [] st := by
    intro  st
    rw [fX2_readOne_j131]
    refine z_aload_n X (q := 0) dX2_readOne_131 rfl rfl ?_
    refine z_callV X hK (As := []) (ci := 2) rfl (by decide) (fun o => (kX2_fail l Z  b x o _)) hk_X2_50 ⟨rfl, rfl⟩ hd_X2_fail (by constructor <;> simp only [rmR, rmX2_readOne, rmX2_fail] <;> omega) ⟨Nat.le_of_ble_eq_true rfl, Nat.le_of_ble_eq_true rfl⟩ rfl rfl (Nat.le_of_ble_eq_true rfl) dX2_readOne_132 (fun _ q11 _ => ?_)
    subst hQ; exact z_vret X hlocks hr dX2_readOne_135
  have J94 : ∀ (y1 : Int32) (st : zS), zs p l e (rmX2_readOne (n + 1)) s m args below meth c Q Z spX b x A 2 0 0 res (fX2_readOne_j94 gE gO this y1 st) 94 [(0, vP (some this)), (1, vI y1)] [] st := by
    intro y1 st
    rw [fX2_readOne_j94]
    refine z_aload_n X (q := 0) dX2_readOne_94 rfl rfl ?_
    refine z_geti X hK (N := 5) (ci := 2) (k := 3) rfl (by decide) inlX2 (by decide) hf_X2_41 rfl spX_X2 rfl dX2_readOne_95 (fun o13 _ => ?_)
    refine z_bipush X (v := (40 : Int32)) dX2_readOne_98 (by decide) ?_
    refine z_icmp_ne X (tgt := 131) dX2_readOne_100 (by decide) (fun _ => ?_) (fun _ => ?_)
    · exact z_sub [0] (J131  _) rfl
    · refine z_aload_n X (q := 0) dX2_readOne_103 rfl rfl ?_
      refine z_iload_n X (q := 1) dX2_readOne_104 rfl rfl ?_
      refine z_callV X hK (As := [vI y1]) (ci := 2) rfl (by decide) (fun o => (kX2_mayOpen l Z  b x o _ _)) hk_X2_74 ⟨rfl, rfl⟩ hd_X2_mayOpen (by constructor <;> simp only [rmR, rmX2_readOne, rmX2_mayOpen] <;> omega) ⟨Nat.le_of_ble_eq_true rfl, Nat.le_of_ble_eq_true rfl⟩ rfl rfl (Nat.le_of_ble_eq_true rfl) dX2_readOne_105 (fun _ q14 _ => ?_)
      refine z_if_eq X (tgt := 131) dX2_readOne_108 (by decide) (fun _ => ?_) (fun _ => ?_)
      · exact z_sub [0] (J131  _) rfl
      · refine z_aload_n X (q := 0) dX2_readOne_111 rfl rfl ?_
        refine z_callV X hK (As := []) (ci := 2) rfl (by decide) (fun o => (kX2_advance l Z  b x o _)) hk_X2_65 ⟨rfl, rfl⟩ hd_X2_advance (by constructor <;> simp only [rmR, rmX2_readOne, rmX2_advance] <;> omega) ⟨Nat.le_of_ble_eq_true rfl, Nat.le_of_ble_eq_true rfl⟩ rfl rfl (Nat.le_of_ble_eq_true rfl) dX2_readOne_112 (fun _ q15 _ => ?_)
        refine z_aload_n X (q := 0) dX2_readOne_115 rfl rfl ?_
        refine z_iload_n X (q := 1) dX2_readOne_116 rfl rfl ?_
        refine z_iconst X (v := (1 : Int32)) dX2_readOne_117 (by decide) ?_
        refine z_iadd X dX2_readOne_118 ?_
        refine z_callV X hK (As := [vI (y1 + (1 : Int32))]) (ci := 2) rfl (by decide) (fun o => (hE o _ _)) hk_X2_56 ⟨rfl, rfl⟩ hd_X2_readEither (by constructor <;> simp only [rmR, rmX2_readOne] <;> omega) ⟨Nat.le_of_ble_eq_true rfl, Nat.le_of_ble_eq_true rfl⟩ rfl rfl (Nat.le_of_ble_eq_true rfl) dX2_readOne_119 (fun _ q16 _ => ?_)
        refine z_aload_n X (q := 0) dX2_readOne_122 rfl rfl ?_
        refine z_bipush X (v := (41 : Int32)) dX2_readOne_123 (by decide) ?_
        refine z_callV X hK (As := [vI (41 : Int32)]) (ci := 2) rfl (by decide) (fun o => (kX2_expect l Z  b x o _ _)) hk_X2_53 ⟨rfl, rfl⟩ hd_X2_expect (by constructor <;> simp only [rmR, rmX2_readOne, rmX2_expect] <;> omega) ⟨Nat.le_of_ble_eq_true rfl, Nat.le_of_ble_eq_true rfl⟩ rfl rfl (Nat.le_of_ble_eq_true rfl) dX2_readOne_125 (fun _ q17 _ => ?_)
        refine z_goto X (tgt := 135) dX2_readOne_128 (by decide) ?_
        subst hQ; exact z_vret X hlocks hr dX2_readOne_135
  rw [fX2_readOne]
  refine z_aload_n X (q := 0) dX2_readOne_0 rfl rfl ?_
  refine z_geti X hK (N := 5) (ci := 2) (k := 3) rfl (by decide) inlX2 (by decide) hf_X2_41 rfl spX_X2 rfl dX2_readOne_1 (fun o22 _ => ?_)
  refine z_bipush X (v := (7 : Int32)) dX2_readOne_4 (by decide) ?_
  refine z_icmp_eq X (tgt := 19) dX2_readOne_6 (by decide) (fun _ => ?_) (fun _ => ?_)
  · exact z_sub [0] (J19  _) rfl
  · refine z_aload_n X (q := 0) dX2_readOne_9 rfl rfl ?_
    refine z_geti X hK (N := 5) (ci := 2) (k := 3) rfl (by decide) inlX2 (by decide) hf_X2_41 rfl spX_X2 rfl dX2_readOne_10 (fun o23 _ => ?_)
    refine z_callS X hK (As := [vI (st.2.1 o23 3)]) (kX4_isName l Z  b x _ _) hk_X2_87 ⟨rfl, rfl⟩ hd_X4_isName.2 (by constructor <;> simp only [rmR, rmX2_readOne, rmX4_isName] <;> omega) ⟨Nat.le_of_ble_eq_true rfl, Nat.le_of_ble_eq_true rfl⟩ rfl rfl (Nat.le_of_ble_eq_true rfl) dX2_readOne_13 (fun q24 => ?_)
    refine z_if_eq X (tgt := 57) dX2_readOne_16 (by decide) (fun _ => ?_) (fun _ => ?_)
    · refine z_aload_n X (q := 0) dX2_readOne_57 rfl rfl ?_
      refine z_geti X hK (N := 5) (ci := 2) (k := 3) rfl (by decide) inlX2 (by decide) hf_X2_41 rfl spX_X2 rfl dX2_readOne_58 (fun o25 _ => ?_)
      refine z_bipush X (v := (45 : Int32)) dX2_readOne_61 (by decide) ?_
      refine z_icmp_ne X (tgt := 94) dX2_readOne_63 (by decide) (fun _ => ?_) (fun _ => ?_)
      · exact z_sub [0, 1] (J94 _ _) rfl
      · refine z_aload_n X (q := 0) dX2_readOne_66 rfl rfl ?_
        refine z_iload_n X (q := 1) dX2_readOne_67 rfl rfl ?_
        refine z_callV X hK (As := [vI a1]) (ci := 2) rfl (by decide) (fun o => (kX2_mayOpen l Z  b x o _ _)) hk_X2_74 ⟨rfl, rfl⟩ hd_X2_mayOpen (by constructor <;> simp only [rmR, rmX2_readOne, rmX2_mayOpen] <;> omega) ⟨Nat.le_of_ble_eq_true rfl, Nat.le_of_ble_eq_true rfl⟩ rfl rfl (Nat.le_of_ble_eq_true rfl) dX2_readOne_68 (fun _ q26 _ => ?_)
        refine z_if_eq X (tgt := 94) dX2_readOne_71 (by decide) (fun _ => ?_) (fun _ => ?_)
        · exact z_sub [0, 1] (J94 _ _) rfl
        · refine z_aload_n X (q := 0) dX2_readOne_74 rfl rfl ?_
          refine z_callV X hK (As := []) (ci := 2) rfl (by decide) (fun o => (kX2_advance l Z  b x o _)) hk_X2_65 ⟨rfl, rfl⟩ hd_X2_advance (by constructor <;> simp only [rmR, rmX2_readOne, rmX2_advance] <;> omega) ⟨Nat.le_of_ble_eq_true rfl, Nat.le_of_ble_eq_true rfl⟩ rfl rfl (Nat.le_of_ble_eq_true rfl) dX2_readOne_75 (fun _ q27 _ => ?_)
          refine z_aload_n X (q := 0) dX2_readOne_78 rfl rfl ?_
          refine z_iload_n X (q := 1) dX2_readOne_79 rfl rfl ?_
          refine z_iconst X (v := (1 : Int32)) dX2_readOne_80 (by decide) ?_
          refine z_iadd X dX2_readOne_81 ?_
          refine z_callV X hK (As := [vI (a1 + (1 : Int32))]) (ci := 2) rfl (by decide) (fun o => (hO o _ _)) hk_X2_84 ⟨rfl, rfl⟩ hd_X2_readOne (by constructor <;> simp only [rmR, rmX2_readOne] <;> omega) ⟨Nat.le_of_ble_eq_true rfl, Nat.le_of_ble_eq_true rfl⟩ rfl rfl (Nat.le_of_ble_eq_true rfl) dX2_readOne_82 (fun _ q28 _ => ?_)
          refine z_aload_n X (q := 0) dX2_readOne_85 rfl rfl ?_
          refine z_bipush X (v := (-19 : Int32)) dX2_readOne_86 (by decide) ?_
          refine z_callV X hK (As := [vI (-19 : Int32)]) (ci := 2) rfl (by decide) (fun o => (kX2_add l Z  b x o _ _)) hk_X2_68 ⟨rfl, rfl⟩ hd_X2_add (by constructor <;> simp only [rmR, rmX2_readOne, rmX2_add] <;> omega) ⟨Nat.le_of_ble_eq_true rfl, Nat.le_of_ble_eq_true rfl⟩ rfl rfl (Nat.le_of_ble_eq_true rfl) dX2_readOne_88 (fun _ q29 _ => ?_)
          refine z_goto X (tgt := 135) dX2_readOne_91 (by decide) ?_
          subst hQ; exact z_vret X hlocks hr dX2_readOne_135
    · exact z_sub [0] (J19  _) rfl
abbrev rmX2_readTerm := rmR
def fX2_readTerm_L7 (gO : Nat → Int32 → zS → Option (Unit × zS)) (this : Nat) : Nat → Int32 → Int32 → zS → Option (Unit × zS)
  | 0, _, _, _ => none
  | n + 1, y1, y2, st => if (160 : Int32) ≤ y2 then (some ((), st)) else ((zok spX st (some this) 2).bind fun o1 => if (st.2.1 o1 3) = (42 : Int32) then ((zok spX st (some this) 2).bind fun o7 => (fX2_advance o7 st).bind fun q2 => (zok spX q2.2 (some this) 2).bind fun o6 => (gO o6 y1 q2.2).bind fun q3 => (zok spX q3.2 (some this) 2).bind fun o5 => (fX2_add o5 (-13 : Int32) q3.2).bind fun q4 => (fX2_readTerm_L7 gO this n) y1 (y2 + (1 : Int32)) q4.2) else (some ((), st)))
def fX2_readTerm (gO : Nat → Int32 → zS → Option (Unit × zS)) (this : Nat) (a1 : Int32) (st : zS) : Option (Unit × zS) :=
  (zok spX st (some this) 2).bind fun o9 => (gO o9 a1 st).bind fun q8 => fX2_readTerm_L7 gO this zF a1 (0 : Int32) q8.2
set_option maxRecDepth 100000 in
set_option maxHeartbeats 4000000 in
theorem kX2_readTerm (l : Launch) (Z : zZ) (b : Nat) (x : Option Nat) (gO : Nat → Int32 → zS → Option (Unit × zS)) (n : Nat) (nO : Nat) (hnO : nO ≤ n) (hO : ∀ (o : Nat) (a0 : Int32) (st : zS), zC l Z spX b x yX2_readOne (.code yX2_readOne cX2_readOne 2 none) (rmR nO) rV [vP (some o), vI a0] st (gO o a0 st)) (this : Nat) (a1 : Int32) (st : zS) : zC l Z spX b x yX2_readTerm (.code yX2_readTerm cX2_readTerm 3 none) (rmX2_readTerm (n + 1)) rV [vP (some this), vI a1] st (fX2_readTerm gO this a1 st) := by
  refine z_start (own := RX2) rfl (by decide +kernel) (Nat.le_of_ble_eq_true rfl) rfl (fun p e s m args below meth c res Q A X hK hr hlocks hQ => ?_)
  have J7 : ∀ (n7 : Nat) (y1 : Int32) (y2 : Int32) (st : zS), zs p l e (rmX2_readTerm (n + 1)) s m args below meth c Q Z spX b x A 3 0 0 res (fX2_readTerm_L7 gO this n7 y1 y2 st) 7 [(0, vP (some this)), (1, vI y1), (2, vI y2)] [] st := by
    intro n7
    induction n7 with
    | zero => intros; exact z_none
    | succ n7 ih7 =>
      intro y1 y2 st
      rw [fX2_readTerm_L7]
      refine z_iload_n X (q := 2) dX2_readTerm_7 rfl rfl ?_
      refine z_sipush X (v := (160 : Int32)) dX2_readTerm_8 (by decide) ?_
      refine z_icmp_ge X (tgt := 44) dX2_readTerm_11 (by decide) (fun _ => ?_) (fun _ => ?_)
      · subst hQ; exact z_vret X hlocks hr dX2_readTerm_44
      · refine z_aload_n X (q := 0) dX2_readTerm_14 rfl rfl ?_
        refine z_geti X hK (N := 5) (ci := 2) (k := 3) rfl (by decide) inlX2 (by decide) hf_X2_41 rfl spX_X2 rfl dX2_readTerm_15 (fun o1 _ => ?_)
        refine z_bipush X (v := (42 : Int32)) dX2_readTerm_18 (by decide) ?_
        refine z_icmp_ne X (tgt := 44) dX2_readTerm_20 (by decide) (fun _ => ?_) (fun _ => ?_)
        · subst hQ; exact z_vret X hlocks hr dX2_readTerm_44
        · refine z_aload_n X (q := 0) dX2_readTerm_23 rfl rfl ?_
          refine z_callV X hK (As := []) (ci := 2) rfl (by decide) (fun o => (kX2_advance l Z  b x o _)) hk_X2_65 ⟨rfl, rfl⟩ hd_X2_advance (by constructor <;> simp only [rmR, rmX2_readTerm, rmX2_advance] <;> omega) ⟨Nat.le_of_ble_eq_true rfl, Nat.le_of_ble_eq_true rfl⟩ rfl rfl (Nat.le_of_ble_eq_true rfl) dX2_readTerm_24 (fun _ q2 _ => ?_)
          refine z_aload_n X (q := 0) dX2_readTerm_27 rfl rfl ?_
          refine z_iload_n X (q := 1) dX2_readTerm_28 rfl rfl ?_
          refine z_callV X hK (As := [vI y1]) (ci := 2) rfl (by decide) (fun o => (hO o _ _)) hk_X2_84 ⟨rfl, rfl⟩ hd_X2_readOne (by constructor <;> simp only [rmR, rmX2_readTerm] <;> omega) ⟨Nat.le_of_ble_eq_true rfl, Nat.le_of_ble_eq_true rfl⟩ rfl rfl (Nat.le_of_ble_eq_true rfl) dX2_readTerm_29 (fun _ q3 _ => ?_)
          refine z_aload_n X (q := 0) dX2_readTerm_32 rfl rfl ?_
          refine z_bipush X (v := (-13 : Int32)) dX2_readTerm_33 (by decide) ?_
          refine z_callV X hK (As := [vI (-13 : Int32)]) (ci := 2) rfl (by decide) (fun o => (kX2_add l Z  b x o _ _)) hk_X2_68 ⟨rfl, rfl⟩ hd_X2_add (by constructor <;> simp only [rmR, rmX2_readTerm, rmX2_add] <;> omega) ⟨Nat.le_of_ble_eq_true rfl, Nat.le_of_ble_eq_true rfl⟩ rfl rfl (Nat.le_of_ble_eq_true rfl) dX2_readTerm_35 (fun _ q4 _ => ?_)
          refine z_iinc X (q := 2) (y := y2 + (1 : Int32)) dX2_readTerm_38 rfl rfl (Nat.le_of_ble_eq_true rfl) rfl ?_
          refine z_goto X (tgt := 7) dX2_readTerm_41 (by decide) ?_
          exact z_sub [1, 2, 0] (ih7 _ _ _) rfl
  rw [fX2_readTerm]
  refine z_aload_n X (q := 0) dX2_readTerm_0 rfl rfl ?_
  refine z_iload_n X (q := 1) dX2_readTerm_1 rfl rfl ?_
  refine z_callV X hK (As := [vI a1]) (ci := 2) rfl (by decide) (fun o => (hO o _ _)) hk_X2_84 ⟨rfl, rfl⟩ hd_X2_readOne (by constructor <;> simp only [rmR, rmX2_readTerm] <;> omega) ⟨Nat.le_of_ble_eq_true rfl, Nat.le_of_ble_eq_true rfl⟩ rfl rfl (Nat.le_of_ble_eq_true rfl) dX2_readTerm_2 (fun _ q8 _ => ?_)
  refine z_iconst X (v := (0 : Int32)) dX2_readTerm_5 (by decide) ?_
  refine z_istore_n X dX2_readTerm_6 rfl (Nat.le_of_ble_eq_true rfl) rfl ?_
  exact z_sub [1, 2, 0] (J7 _ _ _ _) rfl
theorem zw_286 : Cond.methodLink RX2 81 yX2_readTerm ∈ wsL_law := zr_34 _ (by decide +kernel)
theorem zw_287 : Cond.instanceMethod yX2_readTerm ∈ wsL_law := zr_34 _ (by decide +kernel)
theorem zw_288 : Cond.selects RX2 yX2_readTerm yX2_readTerm ∈ wsL_law := zr_34 _ (by decide +kernel)
theorem zw_289 : Cond.code yX2_readTerm cX2_readTerm 3 none ∈ wsL_law := zr_34 _ (by decide +kernel)
theorem hk_X2_81 : ∀ w ∈ ([Cond.methodLink RX2 81 yX2_readTerm, Cond.instanceMethod yX2_readTerm, Cond.selects RX2 yX2_readTerm yX2_readTerm, Cond.initialized RX2, Cond.code yX2_readTerm cX2_readTerm 3 none] : List Cond), w ∈ wsL_law := List.forall_mem_cons.mpr ⟨zw_286, List.forall_mem_cons.mpr ⟨zw_287, List.forall_mem_cons.mpr ⟨zw_288, List.forall_mem_cons.mpr ⟨zw_253, List.forall_mem_cons.mpr ⟨zw_289, fun _ h => absurd h List.not_mem_nil⟩⟩⟩⟩⟩
theorem hd_X2_readTerm : yX2_readTerm.cls = RX2 ∧ yX2_readTerm.cls ≠ "java/lang/invoke/MethodHandle" ∧ yX2_readTerm.cls ≠ "java/lang/invoke/VarHandle" ∧ (parseMethodDescriptor yX2_readTerm.desc).map (fun d => d.parameters.length) = some 1 := by decide +kernel
abbrev rmX2_readSum := rmR
def fX2_readSum_j48 (gT : Nat → Int32 → zS → Option (Unit × zS)) (this : Nat) (k7 : Int32 → Int32 → zS → Option (Unit × zS)) (y1 : Int32) (y2 : Int32) (s0 : Int32) (st : zS) : Option (Unit × zS) :=
  (zok spX st (some this) 2).bind fun o6 => (fX2_advance o6 st).bind fun q1 => (zok spX q1.2 (some this) 2).bind fun o5 => (gT o5 y1 q1.2).bind fun q2 => (zok spX q2.2 (some this) 2).bind fun o4 => (fX2_add o4 s0 q2.2).bind fun q3 => k7 y1 (y2 + (1 : Int32)) q3.2
def fX2_readSum_j32 (gT : Nat → Int32 → zS → Option (Unit × zS)) (this : Nat) (k7 : Int32 → Int32 → zS → Option (Unit × zS)) (y1 : Int32) (y2 : Int32) (st : zS) : Option (Unit × zS) :=
  (zok spX st (some this) 2).bind fun o7 => if (st.2.1 o7 3) = (43 : Int32) then (fX2_readSum_j48 gT this k7 y1 y2 (-11 : Int32) st) else (fX2_readSum_j48 gT this k7 y1 y2 (-12 : Int32) st)
def fX2_readSum_L7 (gT : Nat → Int32 → zS → Option (Unit × zS)) (this : Nat) : Nat → Int32 → Int32 → zS → Option (Unit × zS)
  | 0, _, _, _ => none
  | n + 1, y1, y2, st => if (160 : Int32) ≤ y2 then (some ((), st)) else ((zok spX st (some this) 2).bind fun o8 => if (st.2.1 o8 3) = (43 : Int32) then (fX2_readSum_j32 gT this (fX2_readSum_L7 gT this n) y1 y2 st) else ((zok spX st (some this) 2).bind fun o9 => if (st.2.1 o9 3) = (45 : Int32) then (fX2_readSum_j32 gT this (fX2_readSum_L7 gT this n) y1 y2 st) else (some ((), st))))
def fX2_readSum (gT : Nat → Int32 → zS → Option (Unit × zS)) (this : Nat) (a1 : Int32) (st : zS) : Option (Unit × zS) :=
  (zok spX st (some this) 2).bind fun o11 => (gT o11 a1 st).bind fun q10 => fX2_readSum_L7 gT this zF a1 (0 : Int32) q10.2
set_option maxRecDepth 100000 in
set_option maxHeartbeats 4000000 in
theorem kX2_readSum (l : Launch) (Z : zZ) (b : Nat) (x : Option Nat) (gT : Nat → Int32 → zS → Option (Unit × zS)) (n : Nat) (nT : Nat) (hnT : nT ≤ n) (hT : ∀ (o : Nat) (a0 : Int32) (st : zS), zC l Z spX b x yX2_readTerm (.code yX2_readTerm cX2_readTerm 3 none) (rmR nT) rV [vP (some o), vI a0] st (gT o a0 st)) (this : Nat) (a1 : Int32) (st : zS) : zC l Z spX b x yX2_readSum (.code yX2_readSum cX2_readSum 4 none) (rmX2_readSum (n + 1)) rV [vP (some this), vI a1] st (fX2_readSum gT this a1 st) := by
  refine z_start (own := RX2) rfl (by decide +kernel) (Nat.le_of_ble_eq_true rfl) rfl (fun p e s m args below meth c res Q A X hK hr hlocks hQ => ?_)
  have J7 : ∀ (n7 : Nat) (y1 : Int32) (y2 : Int32) (st : zS), zs p l e (rmX2_readSum (n + 1)) s m args below meth c Q Z spX b x A 4 0 0 res (fX2_readSum_L7 gT this n7 y1 y2 st) 7 [(0, vP (some this)), (1, vI y1), (2, vI y2)] [] st := by
    intro n7
    induction n7 with
    | zero => intros; exact z_none
    | succ n7 ih7 =>
      have J48 : ∀ (y1 : Int32) (y2 : Int32) (s0 : Int32) (st : zS), zs p l e (rmX2_readSum (n + 1)) s m args below meth c Q Z spX b x A 4 0 0 res (fX2_readSum_j48 gT this (fX2_readSum_L7 gT this n7) y1 y2 s0 st) 48 [(0, vP (some this)), (1, vI y1), (2, vI y2)] [vI s0] st := by
        intro y1 y2 s0 st
        rw [fX2_readSum_j48]
        refine z_istore_n X dX2_readSum_48 rfl (Nat.le_of_ble_eq_true rfl) rfl ?_
        refine z_aload_n X (q := 1) dX2_readSum_49 rfl rfl ?_
        refine z_callV X hK (As := []) (ci := 2) rfl (by decide) (fun o => (kX2_advance l Z  b x o _)) hk_X2_65 ⟨rfl, rfl⟩ hd_X2_advance (by constructor <;> simp only [rmR, rmX2_readSum, rmX2_advance] <;> omega) ⟨Nat.le_of_ble_eq_true rfl, Nat.le_of_ble_eq_true rfl⟩ rfl rfl (Nat.le_of_ble_eq_true rfl) dX2_readSum_50 (fun _ q1 _ => ?_)
        refine z_aload_n X (q := 1) dX2_readSum_53 rfl rfl ?_
        refine z_iload_n X (q := 2) dX2_readSum_54 rfl rfl ?_
        refine z_callV X hK (As := [vI y1]) (ci := 2) rfl (by decide) (fun o => (hT o _ _)) hk_X2_81 ⟨rfl, rfl⟩ hd_X2_readTerm (by constructor <;> simp only [rmR, rmX2_readSum] <;> omega) ⟨Nat.le_of_ble_eq_true rfl, Nat.le_of_ble_eq_true rfl⟩ rfl rfl (Nat.le_of_ble_eq_true rfl) dX2_readSum_55 (fun _ q2 _ => ?_)
        refine z_aload_n X (q := 1) dX2_readSum_58 rfl rfl ?_
        refine z_iload_n X (q := 0) dX2_readSum_59 rfl rfl ?_
        refine z_callV X hK (As := [vI s0]) (ci := 2) rfl (by decide) (fun o => (kX2_add l Z  b x o _ _)) hk_X2_68 ⟨rfl, rfl⟩ hd_X2_add (by constructor <;> simp only [rmR, rmX2_readSum, rmX2_add] <;> omega) ⟨Nat.le_of_ble_eq_true rfl, Nat.le_of_ble_eq_true rfl⟩ rfl rfl (Nat.le_of_ble_eq_true rfl) dX2_readSum_60 (fun _ q3 _ => ?_)
        refine z_iinc X (q := 3) (y := y2 + (1 : Int32)) dX2_readSum_63 rfl rfl (Nat.le_of_ble_eq_true rfl) rfl ?_
        refine z_goto X (tgt := 7) dX2_readSum_66 (by decide) ?_
        exact z_sub [2, 3, 0] (ih7 _ _ _) rfl
      have J32 : ∀ (y1 : Int32) (y2 : Int32) (st : zS), zs p l e (rmX2_readSum (n + 1)) s m args below meth c Q Z spX b x A 4 0 0 res (fX2_readSum_j32 gT this (fX2_readSum_L7 gT this n7) y1 y2 st) 32 [(0, vP (some this)), (1, vI y1), (2, vI y2)] [] st := by
        intro y1 y2 st
        rw [fX2_readSum_j32]
        refine z_aload_n X (q := 0) dX2_readSum_32 rfl rfl ?_
        refine z_geti X hK (N := 5) (ci := 2) (k := 3) rfl (by decide) inlX2 (by decide) hf_X2_41 rfl spX_X2 rfl dX2_readSum_33 (fun o7 _ => ?_)
        refine z_bipush X (v := (43 : Int32)) dX2_readSum_36 (by decide) ?_
        refine z_icmp_ne X (tgt := 46) dX2_readSum_38 (by decide) (fun _ => ?_) (fun _ => ?_)
        · refine z_bipush X (v := (-12 : Int32)) dX2_readSum_46 (by decide) ?_
          exact z_sub [0, 1, 2] (J48 _ _ _ _) rfl
        · refine z_bipush X (v := (-11 : Int32)) dX2_readSum_41 (by decide) ?_
          refine z_goto X (tgt := 48) dX2_readSum_43 (by decide) ?_
          exact z_sub [0, 1, 2] (J48 _ _ _ _) rfl
      intro y1 y2 st
      rw [fX2_readSum_L7]
      refine z_iload_n X (q := 2) dX2_readSum_7 rfl rfl ?_
      refine z_sipush X (v := (160 : Int32)) dX2_readSum_8 (by decide) ?_
      refine z_icmp_ge X (tgt := 69) dX2_readSum_11 (by decide) (fun _ => ?_) (fun _ => ?_)
      · subst hQ; exact z_vret X hlocks hr dX2_readSum_69
      · refine z_aload_n X (q := 0) dX2_readSum_14 rfl rfl ?_
        refine z_geti X hK (N := 5) (ci := 2) (k := 3) rfl (by decide) inlX2 (by decide) hf_X2_41 rfl spX_X2 rfl dX2_readSum_15 (fun o8 _ => ?_)
        refine z_bipush X (v := (43 : Int32)) dX2_readSum_18 (by decide) ?_
        refine z_icmp_eq X (tgt := 32) dX2_readSum_20 (by decide) (fun _ => ?_) (fun _ => ?_)
        · exact z_sub [0, 1, 2] (J32 _ _ _) rfl
        · refine z_aload_n X (q := 0) dX2_readSum_23 rfl rfl ?_
          refine z_geti X hK (N := 5) (ci := 2) (k := 3) rfl (by decide) inlX2 (by decide) hf_X2_41 rfl spX_X2 rfl dX2_readSum_24 (fun o9 _ => ?_)
          refine z_bipush X (v := (45 : Int32)) dX2_readSum_27 (by decide) ?_
          refine z_icmp_ne X (tgt := 69) dX2_readSum_29 (by decide) (fun _ => ?_) (fun _ => ?_)
          · subst hQ; exact z_vret X hlocks hr dX2_readSum_69
          · exact z_sub [0, 1, 2] (J32 _ _ _) rfl
  rw [fX2_readSum]
  refine z_aload_n X (q := 0) dX2_readSum_0 rfl rfl ?_
  refine z_iload_n X (q := 1) dX2_readSum_1 rfl rfl ?_
  refine z_callV X hK (As := [vI a1]) (ci := 2) rfl (by decide) (fun o => (hT o _ _)) hk_X2_81 ⟨rfl, rfl⟩ hd_X2_readTerm (by constructor <;> simp only [rmR, rmX2_readSum] <;> omega) ⟨Nat.le_of_ble_eq_true rfl, Nat.le_of_ble_eq_true rfl⟩ rfl rfl (Nat.le_of_ble_eq_true rfl) dX2_readSum_2 (fun _ q10 _ => ?_)
  refine z_iconst X (v := (0 : Int32)) dX2_readSum_5 (by decide) ?_
  refine z_istore_n X dX2_readSum_6 rfl (Nat.le_of_ble_eq_true rfl) rfl ?_
  exact z_sub [1, 2, 0] (J7 _ _ _ _) rfl
theorem zw_290 : Cond.methodLink RX2 71 yX2_readNot ∈ wsL_law := zr_33 _ (by decide +kernel)
theorem zw_291 : Cond.instanceMethod yX2_readNot ∈ wsL_law := zr_33 _ (by decide +kernel)
theorem zw_292 : Cond.selects RX2 yX2_readNot yX2_readNot ∈ wsL_law := zr_33 _ (by decide +kernel)
theorem zw_293 : Cond.code yX2_readNot cX2_readNot 3 none ∈ wsL_law := zr_33 _ (by decide +kernel)
theorem hk_X2_71 : ∀ w ∈ ([Cond.methodLink RX2 71 yX2_readNot, Cond.instanceMethod yX2_readNot, Cond.selects RX2 yX2_readNot yX2_readNot, Cond.initialized RX2, Cond.code yX2_readNot cX2_readNot 3 none] : List Cond), w ∈ wsL_law := List.forall_mem_cons.mpr ⟨zw_290, List.forall_mem_cons.mpr ⟨zw_291, List.forall_mem_cons.mpr ⟨zw_292, List.forall_mem_cons.mpr ⟨zw_253, List.forall_mem_cons.mpr ⟨zw_293, fun _ h => absurd h List.not_mem_nil⟩⟩⟩⟩⟩
theorem zw_294 : Cond.methodLink RX2 78 yX2_readSum ∈ wsL_law := zr_33 _ (by decide +kernel)
theorem zw_295 : Cond.instanceMethod yX2_readSum ∈ wsL_law := zr_33 _ (by decide +kernel)
theorem zw_296 : Cond.selects RX2 yX2_readSum yX2_readSum ∈ wsL_law := zr_33 _ (by decide +kernel)
theorem zw_297 : Cond.code yX2_readSum cX2_readSum 4 none ∈ wsL_law := zr_34 _ (by decide +kernel)
theorem hk_X2_78 : ∀ w ∈ ([Cond.methodLink RX2 78 yX2_readSum, Cond.instanceMethod yX2_readSum, Cond.selects RX2 yX2_readSum yX2_readSum, Cond.initialized RX2, Cond.code yX2_readSum cX2_readSum 4 none] : List Cond), w ∈ wsL_law := List.forall_mem_cons.mpr ⟨zw_294, List.forall_mem_cons.mpr ⟨zw_295, List.forall_mem_cons.mpr ⟨zw_296, List.forall_mem_cons.mpr ⟨zw_253, List.forall_mem_cons.mpr ⟨zw_297, fun _ h => absurd h List.not_mem_nil⟩⟩⟩⟩⟩
theorem hd_X2_readNot : yX2_readNot.cls = RX2 ∧ yX2_readNot.cls ≠ "java/lang/invoke/MethodHandle" ∧ yX2_readNot.cls ≠ "java/lang/invoke/VarHandle" ∧ (parseMethodDescriptor yX2_readNot.desc).map (fun d => d.parameters.length) = some 1 := by decide +kernel
theorem hd_X2_readSum : yX2_readSum.cls = RX2 ∧ yX2_readSum.cls ≠ "java/lang/invoke/MethodHandle" ∧ yX2_readSum.cls ≠ "java/lang/invoke/VarHandle" ∧ (parseMethodDescriptor yX2_readSum.desc).map (fun d => d.parameters.length) = some 1 := by decide +kernel
abbrev rmX2_readNot := rmR
def fX2_readNot_j75 (gN : Nat → Int32 → zS → Option (Unit × zS)) (gS : Nat → Int32 → zS → Option (Unit × zS)) (this : Nat) (y1 : Int32) (s0 : Int32) (st : zS) : Option (Unit × zS) :=
  (zok spX st (some this) 2).bind fun o6 => (fX2_advance o6 st).bind fun q1 => (zok spX q1.2 (some this) 2).bind fun o5 => (gS o5 y1 q1.2).bind fun q2 => (zok spX q2.2 (some this) 2).bind fun o4 => (fX2_add o4 s0 q2.2).bind fun q3 => some ((), q3.2)
def fX2_readNot_j59 (gN : Nat → Int32 → zS → Option (Unit × zS)) (gS : Nat → Int32 → zS → Option (Unit × zS)) (this : Nat) (y1 : Int32) (st : zS) : Option (Unit × zS) :=
  (zok spX st (some this) 2).bind fun o7 => if (st.2.1 o7 3) = (60 : Int32) then (fX2_readNot_j75 gN gS this y1 (-14 : Int32) st) else (fX2_readNot_j75 gN gS this y1 (-15 : Int32) st)
def fX2_readNot (gN : Nat → Int32 → zS → Option (Unit × zS)) (gS : Nat → Int32 → zS → Option (Unit × zS)) (this : Nat) (a1 : Int32) (st : zS) : Option (Unit × zS) :=
  (zok spX st (some this) 2).bind fun o8 => if (st.2.1 o8 3) = (3 : Int32) then ((zok spX st (some this) 2).bind fun o20 => (fX2_mayOpen o20 a1 st).bind fun q13 => if q13.1 = 0 then (some ((), q13.2)) else ((zok spX q13.2 (some this) 2).bind fun o19 => (fX2_advance o19 q13.2).bind fun q14 => (zok spX q14.2 (some this) 2).bind fun o18 => (gN o18 (a1 + (1 : Int32)) q14.2).bind fun q15 => (zok spX q15.2 (some this) 2).bind fun o17 => (fX2_add o17 (-18 : Int32) q15.2).bind fun q16 => some ((), q16.2))) else ((zok spX st (some this) 2).bind fun o12 => (gS o12 a1 st).bind fun q9 => (zok spX q9.2 (some this) 2).bind fun o10 => if (q9.2.2.1 o10 3) = (60 : Int32) then (fX2_readNot_j59 gN gS this a1 q9.2) else ((zok spX q9.2 (some this) 2).bind fun o11 => if (q9.2.2.1 o11 3) = (61 : Int32) then (fX2_readNot_j59 gN gS this a1 q9.2) else (some ((), q9.2))))
set_option maxRecDepth 100000 in
set_option maxHeartbeats 4000000 in
theorem kX2_readNot (l : Launch) (Z : zZ) (b : Nat) (x : Option Nat) (gN : Nat → Int32 → zS → Option (Unit × zS)) (gS : Nat → Int32 → zS → Option (Unit × zS)) (n : Nat) (nN : Nat) (hnN : nN ≤ n) (hN : ∀ (o : Nat) (a0 : Int32) (st : zS), zC l Z spX b x yX2_readNot (.code yX2_readNot cX2_readNot 3 none) (rmR nN) rV [vP (some o), vI a0] st (gN o a0 st)) (nS : Nat) (hnS : nS ≤ n) (hS : ∀ (o : Nat) (a0 : Int32) (st : zS), zC l Z spX b x yX2_readSum (.code yX2_readSum cX2_readSum 4 none) (rmR nS) rV [vP (some o), vI a0] st (gS o a0 st)) (this : Nat) (a1 : Int32) (st : zS) : zC l Z spX b x yX2_readNot (.code yX2_readNot cX2_readNot 3 none) (rmX2_readNot (n + 1)) rV [vP (some this), vI a1] st (fX2_readNot gN gS this a1 st) := by
  refine z_start (own := RX2) rfl (by decide +kernel) (Nat.le_of_ble_eq_true rfl) rfl (fun p e s m args below meth c res Q A X hK hr hlocks hQ => ?_)
  have J75 : ∀ (y1 : Int32) (s0 : Int32) (st : zS), zs p l e (rmX2_readNot (n + 1)) s m args below meth c Q Z spX b x A 3 0 0 res (fX2_readNot_j75 gN gS this y1 s0 st) 75 [(0, vP (some this)), (1, vI y1)] [vI s0] st := by
    intro y1 s0 st
    rw [fX2_readNot_j75]
    refine z_istore_n X dX2_readNot_75 rfl (Nat.le_of_ble_eq_true rfl) rfl ?_
    refine z_aload_n X (q := 1) dX2_readNot_76 rfl rfl ?_
    refine z_callV X hK (As := []) (ci := 2) rfl (by decide) (fun o => (kX2_advance l Z  b x o _)) hk_X2_65 ⟨rfl, rfl⟩ hd_X2_advance (by constructor <;> simp only [rmR, rmX2_readNot, rmX2_advance] <;> omega) ⟨Nat.le_of_ble_eq_true rfl, Nat.le_of_ble_eq_true rfl⟩ rfl rfl (Nat.le_of_ble_eq_true rfl) dX2_readNot_77 (fun _ q1 _ => ?_)
    refine z_aload_n X (q := 1) dX2_readNot_80 rfl rfl ?_
    refine z_iload_n X (q := 2) dX2_readNot_81 rfl rfl ?_
    refine z_callV X hK (As := [vI y1]) (ci := 2) rfl (by decide) (fun o => (hS o _ _)) hk_X2_78 ⟨rfl, rfl⟩ hd_X2_readSum (by constructor <;> simp only [rmR, rmX2_readNot] <;> omega) ⟨Nat.le_of_ble_eq_true rfl, Nat.le_of_ble_eq_true rfl⟩ rfl rfl (Nat.le_of_ble_eq_true rfl) dX2_readNot_82 (fun _ q2 _ => ?_)
    refine z_aload_n X (q := 1) dX2_readNot_85 rfl rfl ?_
    refine z_iload_n X (q := 0) dX2_readNot_86 rfl rfl ?_
    refine z_callV X hK (As := [vI s0]) (ci := 2) rfl (by decide) (fun o => (kX2_add l Z  b x o _ _)) hk_X2_68 ⟨rfl, rfl⟩ hd_X2_add (by constructor <;> simp only [rmR, rmX2_readNot, rmX2_add] <;> omega) ⟨Nat.le_of_ble_eq_true rfl, Nat.le_of_ble_eq_true rfl⟩ rfl rfl (Nat.le_of_ble_eq_true rfl) dX2_readNot_87 (fun _ q3 _ => ?_)
    subst hQ; exact z_vret X hlocks hr dX2_readNot_90
  have J59 : ∀ (y1 : Int32) (st : zS), zs p l e (rmX2_readNot (n + 1)) s m args below meth c Q Z spX b x A 3 0 0 res (fX2_readNot_j59 gN gS this y1 st) 59 [(0, vP (some this)), (1, vI y1)] [] st := by
    intro y1 st
    rw [fX2_readNot_j59]
    refine z_aload_n X (q := 0) dX2_readNot_59 rfl rfl ?_
    refine z_geti X hK (N := 5) (ci := 2) (k := 3) rfl (by decide) inlX2 (by decide) hf_X2_41 rfl spX_X2 rfl dX2_readNot_60 (fun o7 _ => ?_)
    refine z_bipush X (v := (60 : Int32)) dX2_readNot_63 (by decide) ?_
    refine z_icmp_ne X (tgt := 73) dX2_readNot_65 (by decide) (fun _ => ?_) (fun _ => ?_)
    · refine z_bipush X (v := (-15 : Int32)) dX2_readNot_73 (by decide) ?_
      exact z_sub [0, 1] (J75 _ _ _) rfl
    · refine z_bipush X (v := (-14 : Int32)) dX2_readNot_68 (by decide) ?_
      refine z_goto X (tgt := 75) dX2_readNot_70 (by decide) ?_
      exact z_sub [0, 1] (J75 _ _ _) rfl
  rw [fX2_readNot]
  refine z_aload_n X (q := 0) dX2_readNot_0 rfl rfl ?_
  refine z_geti X hK (N := 5) (ci := 2) (k := 3) rfl (by decide) inlX2 (by decide) hf_X2_41 rfl spX_X2 rfl dX2_readNot_1 (fun o8 _ => ?_)
  refine z_iconst X (v := (3 : Int32)) dX2_readNot_4 (by decide) ?_
  refine z_icmp_ne X (tgt := 35) dX2_readNot_5 (by decide) (fun _ => ?_) (fun _ => ?_)
  · refine z_aload_n X (q := 0) dX2_readNot_35 rfl rfl ?_
    refine z_iload_n X (q := 1) dX2_readNot_36 rfl rfl ?_
    refine z_callV X hK (As := [vI a1]) (ci := 2) rfl (by decide) (fun o => (hS o _ _)) hk_X2_78 ⟨rfl, rfl⟩ hd_X2_readSum (by constructor <;> simp only [rmR, rmX2_readNot] <;> omega) ⟨Nat.le_of_ble_eq_true rfl, Nat.le_of_ble_eq_true rfl⟩ rfl rfl (Nat.le_of_ble_eq_true rfl) dX2_readNot_37 (fun _ q9 _ => ?_)
    refine z_aload_n X (q := 0) dX2_readNot_40 rfl rfl ?_
    refine z_geti X hK (N := 5) (ci := 2) (k := 3) rfl (by decide) inlX2 (by decide) hf_X2_41 rfl spX_X2 rfl dX2_readNot_41 (fun o10 _ => ?_)
    refine z_bipush X (v := (60 : Int32)) dX2_readNot_44 (by decide) ?_
    refine z_icmp_eq X (tgt := 59) dX2_readNot_46 (by decide) (fun _ => ?_) (fun _ => ?_)
    · exact z_sub [0, 1] (J59 _ _) rfl
    · refine z_aload_n X (q := 0) dX2_readNot_49 rfl rfl ?_
      refine z_geti X hK (N := 5) (ci := 2) (k := 3) rfl (by decide) inlX2 (by decide) hf_X2_41 rfl spX_X2 rfl dX2_readNot_50 (fun o11 _ => ?_)
      refine z_bipush X (v := (61 : Int32)) dX2_readNot_53 (by decide) ?_
      refine z_icmp_eq X (tgt := 59) dX2_readNot_55 (by decide) (fun _ => ?_) (fun _ => ?_)
      · exact z_sub [0, 1] (J59 _ _) rfl
      · subst hQ; exact z_vret X hlocks hr dX2_readNot_58
  · refine z_aload_n X (q := 0) dX2_readNot_8 rfl rfl ?_
    refine z_iload_n X (q := 1) dX2_readNot_9 rfl rfl ?_
    refine z_callV X hK (As := [vI a1]) (ci := 2) rfl (by decide) (fun o => (kX2_mayOpen l Z  b x o _ _)) hk_X2_74 ⟨rfl, rfl⟩ hd_X2_mayOpen (by constructor <;> simp only [rmR, rmX2_readNot, rmX2_mayOpen] <;> omega) ⟨Nat.le_of_ble_eq_true rfl, Nat.le_of_ble_eq_true rfl⟩ rfl rfl (Nat.le_of_ble_eq_true rfl) dX2_readNot_10 (fun _ q13 _ => ?_)
    refine z_if_ne X (tgt := 17) dX2_readNot_13 (by decide) (fun _ => ?_) (fun _ => ?_)
    · refine z_aload_n X (q := 0) dX2_readNot_17 rfl rfl ?_
      refine z_callV X hK (As := []) (ci := 2) rfl (by decide) (fun o => (kX2_advance l Z  b x o _)) hk_X2_65 ⟨rfl, rfl⟩ hd_X2_advance (by constructor <;> simp only [rmR, rmX2_readNot, rmX2_advance] <;> omega) ⟨Nat.le_of_ble_eq_true rfl, Nat.le_of_ble_eq_true rfl⟩ rfl rfl (Nat.le_of_ble_eq_true rfl) dX2_readNot_18 (fun _ q14 _ => ?_)
      refine z_aload_n X (q := 0) dX2_readNot_21 rfl rfl ?_
      refine z_iload_n X (q := 1) dX2_readNot_22 rfl rfl ?_
      refine z_iconst X (v := (1 : Int32)) dX2_readNot_23 (by decide) ?_
      refine z_iadd X dX2_readNot_24 ?_
      refine z_callV X hK (As := [vI (a1 + (1 : Int32))]) (ci := 2) rfl (by decide) (fun o => (hN o _ _)) hk_X2_71 ⟨rfl, rfl⟩ hd_X2_readNot (by constructor <;> simp only [rmR, rmX2_readNot] <;> omega) ⟨Nat.le_of_ble_eq_true rfl, Nat.le_of_ble_eq_true rfl⟩ rfl rfl (Nat.le_of_ble_eq_true rfl) dX2_readNot_25 (fun _ q15 _ => ?_)
      refine z_aload_n X (q := 0) dX2_readNot_28 rfl rfl ?_
      refine z_bipush X (v := (-18 : Int32)) dX2_readNot_29 (by decide) ?_
      refine z_callV X hK (As := [vI (-18 : Int32)]) (ci := 2) rfl (by decide) (fun o => (kX2_add l Z  b x o _ _)) hk_X2_68 ⟨rfl, rfl⟩ hd_X2_add (by constructor <;> simp only [rmR, rmX2_readNot, rmX2_add] <;> omega) ⟨Nat.le_of_ble_eq_true rfl, Nat.le_of_ble_eq_true rfl⟩ rfl rfl (Nat.le_of_ble_eq_true rfl) dX2_readNot_31 (fun _ q16 _ => ?_)
      subst hQ; exact z_vret X hlocks hr dX2_readNot_34
    · subst hQ; exact z_vret X hlocks hr dX2_readNot_16
abbrev rmX2_readBoth := rmR
def fX2_readBoth_L7 (gN : Nat → Int32 → zS → Option (Unit × zS)) (this : Nat) : Nat → Int32 → Int32 → zS → Option (Unit × zS)
  | 0, _, _, _ => none
  | n + 1, y1, y2, st => if (160 : Int32) ≤ y2 then (some ((), st)) else ((zok spX st (some this) 2).bind fun o1 => if (st.2.1 o1 3) = (2 : Int32) then ((zok spX st (some this) 2).bind fun o7 => (fX2_advance o7 st).bind fun q2 => (zok spX q2.2 (some this) 2).bind fun o6 => (gN o6 y1 q2.2).bind fun q3 => (zok spX q3.2 (some this) 2).bind fun o5 => (fX2_add o5 (-16 : Int32) q3.2).bind fun q4 => (fX2_readBoth_L7 gN this n) y1 (y2 + (1 : Int32)) q4.2) else (some ((), st)))
def fX2_readBoth (gN : Nat → Int32 → zS → Option (Unit × zS)) (this : Nat) (a1 : Int32) (st : zS) : Option (Unit × zS) :=
  (zok spX st (some this) 2).bind fun o9 => (gN o9 a1 st).bind fun q8 => fX2_readBoth_L7 gN this zF a1 (0 : Int32) q8.2
set_option maxRecDepth 100000 in
set_option maxHeartbeats 4000000 in
theorem kX2_readBoth (l : Launch) (Z : zZ) (b : Nat) (x : Option Nat) (gN : Nat → Int32 → zS → Option (Unit × zS)) (n : Nat) (nN : Nat) (hnN : nN ≤ n) (hN : ∀ (o : Nat) (a0 : Int32) (st : zS), zC l Z spX b x yX2_readNot (.code yX2_readNot cX2_readNot 3 none) (rmR nN) rV [vP (some o), vI a0] st (gN o a0 st)) (this : Nat) (a1 : Int32) (st : zS) : zC l Z spX b x yX2_readBoth (.code yX2_readBoth cX2_readBoth 3 none) (rmX2_readBoth (n + 1)) rV [vP (some this), vI a1] st (fX2_readBoth gN this a1 st) := by
  refine z_start (own := RX2) rfl (by decide +kernel) (Nat.le_of_ble_eq_true rfl) rfl (fun p e s m args below meth c res Q A X hK hr hlocks hQ => ?_)
  have J7 : ∀ (n7 : Nat) (y1 : Int32) (y2 : Int32) (st : zS), zs p l e (rmX2_readBoth (n + 1)) s m args below meth c Q Z spX b x A 3 0 0 res (fX2_readBoth_L7 gN this n7 y1 y2 st) 7 [(0, vP (some this)), (1, vI y1), (2, vI y2)] [] st := by
    intro n7
    induction n7 with
    | zero => intros; exact z_none
    | succ n7 ih7 =>
      intro y1 y2 st
      rw [fX2_readBoth_L7]
      refine z_iload_n X (q := 2) dX2_readBoth_7 rfl rfl ?_
      refine z_sipush X (v := (160 : Int32)) dX2_readBoth_8 (by decide) ?_
      refine z_icmp_ge X (tgt := 43) dX2_readBoth_11 (by decide) (fun _ => ?_) (fun _ => ?_)
      · subst hQ; exact z_vret X hlocks hr dX2_readBoth_43
      · refine z_aload_n X (q := 0) dX2_readBoth_14 rfl rfl ?_
        refine z_geti X hK (N := 5) (ci := 2) (k := 3) rfl (by decide) inlX2 (by decide) hf_X2_41 rfl spX_X2 rfl dX2_readBoth_15 (fun o1 _ => ?_)
        refine z_iconst X (v := (2 : Int32)) dX2_readBoth_18 (by decide) ?_
        refine z_icmp_ne X (tgt := 43) dX2_readBoth_19 (by decide) (fun _ => ?_) (fun _ => ?_)
        · subst hQ; exact z_vret X hlocks hr dX2_readBoth_43
        · refine z_aload_n X (q := 0) dX2_readBoth_22 rfl rfl ?_
          refine z_callV X hK (As := []) (ci := 2) rfl (by decide) (fun o => (kX2_advance l Z  b x o _)) hk_X2_65 ⟨rfl, rfl⟩ hd_X2_advance (by constructor <;> simp only [rmR, rmX2_readBoth, rmX2_advance] <;> omega) ⟨Nat.le_of_ble_eq_true rfl, Nat.le_of_ble_eq_true rfl⟩ rfl rfl (Nat.le_of_ble_eq_true rfl) dX2_readBoth_23 (fun _ q2 _ => ?_)
          refine z_aload_n X (q := 0) dX2_readBoth_26 rfl rfl ?_
          refine z_iload_n X (q := 1) dX2_readBoth_27 rfl rfl ?_
          refine z_callV X hK (As := [vI y1]) (ci := 2) rfl (by decide) (fun o => (hN o _ _)) hk_X2_71 ⟨rfl, rfl⟩ hd_X2_readNot (by constructor <;> simp only [rmR, rmX2_readBoth] <;> omega) ⟨Nat.le_of_ble_eq_true rfl, Nat.le_of_ble_eq_true rfl⟩ rfl rfl (Nat.le_of_ble_eq_true rfl) dX2_readBoth_28 (fun _ q3 _ => ?_)
          refine z_aload_n X (q := 0) dX2_readBoth_31 rfl rfl ?_
          refine z_bipush X (v := (-16 : Int32)) dX2_readBoth_32 (by decide) ?_
          refine z_callV X hK (As := [vI (-16 : Int32)]) (ci := 2) rfl (by decide) (fun o => (kX2_add l Z  b x o _ _)) hk_X2_68 ⟨rfl, rfl⟩ hd_X2_add (by constructor <;> simp only [rmR, rmX2_readBoth, rmX2_add] <;> omega) ⟨Nat.le_of_ble_eq_true rfl, Nat.le_of_ble_eq_true rfl⟩ rfl rfl (Nat.le_of_ble_eq_true rfl) dX2_readBoth_34 (fun _ q4 _ => ?_)
          refine z_iinc X (q := 2) (y := y2 + (1 : Int32)) dX2_readBoth_37 rfl rfl (Nat.le_of_ble_eq_true rfl) rfl ?_
          refine z_goto X (tgt := 7) dX2_readBoth_40 (by decide) ?_
          exact z_sub [1, 2, 0] (ih7 _ _ _) rfl
  rw [fX2_readBoth]
  refine z_aload_n X (q := 0) dX2_readBoth_0 rfl rfl ?_
  refine z_iload_n X (q := 1) dX2_readBoth_1 rfl rfl ?_
  refine z_callV X hK (As := [vI a1]) (ci := 2) rfl (by decide) (fun o => (hN o _ _)) hk_X2_71 ⟨rfl, rfl⟩ hd_X2_readNot (by constructor <;> simp only [rmR, rmX2_readBoth] <;> omega) ⟨Nat.le_of_ble_eq_true rfl, Nat.le_of_ble_eq_true rfl⟩ rfl rfl (Nat.le_of_ble_eq_true rfl) dX2_readBoth_2 (fun _ q8 _ => ?_)
  refine z_iconst X (v := (0 : Int32)) dX2_readBoth_5 (by decide) ?_
  refine z_istore_n X dX2_readBoth_6 rfl (Nat.le_of_ble_eq_true rfl) rfl ?_
  exact z_sub [1, 2, 0] (J7 _ _ _ _) rfl
theorem zw_298 : Cond.methodLink RX2 62 yX2_readBoth ∈ wsL_law := zr_33 _ (by decide +kernel)
theorem zw_299 : Cond.instanceMethod yX2_readBoth ∈ wsL_law := zr_33 _ (by decide +kernel)
theorem zw_300 : Cond.selects RX2 yX2_readBoth yX2_readBoth ∈ wsL_law := zr_33 _ (by decide +kernel)
theorem zw_301 : Cond.code yX2_readBoth cX2_readBoth 3 none ∈ wsL_law := zr_33 _ (by decide +kernel)
theorem hk_X2_62 : ∀ w ∈ ([Cond.methodLink RX2 62 yX2_readBoth, Cond.instanceMethod yX2_readBoth, Cond.selects RX2 yX2_readBoth yX2_readBoth, Cond.initialized RX2, Cond.code yX2_readBoth cX2_readBoth 3 none] : List Cond), w ∈ wsL_law := List.forall_mem_cons.mpr ⟨zw_298, List.forall_mem_cons.mpr ⟨zw_299, List.forall_mem_cons.mpr ⟨zw_300, List.forall_mem_cons.mpr ⟨zw_253, List.forall_mem_cons.mpr ⟨zw_301, fun _ h => absurd h List.not_mem_nil⟩⟩⟩⟩⟩
theorem hd_X2_readBoth : yX2_readBoth.cls = RX2 ∧ yX2_readBoth.cls ≠ "java/lang/invoke/MethodHandle" ∧ yX2_readBoth.cls ≠ "java/lang/invoke/VarHandle" ∧ (parseMethodDescriptor yX2_readBoth.desc).map (fun d => d.parameters.length) = some 1 := by decide +kernel
abbrev rmX2_readEither := rmR
def fX2_readEither_L7 (gB : Nat → Int32 → zS → Option (Unit × zS)) (this : Nat) : Nat → Int32 → Int32 → zS → Option (Unit × zS)
  | 0, _, _, _ => none
  | n + 1, y1, y2, st => if (160 : Int32) ≤ y2 then (some ((), st)) else ((zok spX st (some this) 2).bind fun o1 => if (st.2.1 o1 3) = (1 : Int32) then ((zok spX st (some this) 2).bind fun o7 => (fX2_advance o7 st).bind fun q2 => (zok spX q2.2 (some this) 2).bind fun o6 => (gB o6 y1 q2.2).bind fun q3 => (zok spX q3.2 (some this) 2).bind fun o5 => (fX2_add o5 (-17 : Int32) q3.2).bind fun q4 => (fX2_readEither_L7 gB this n) y1 (y2 + (1 : Int32)) q4.2) else (some ((), st)))
def fX2_readEither (gB : Nat → Int32 → zS → Option (Unit × zS)) (this : Nat) (a1 : Int32) (st : zS) : Option (Unit × zS) :=
  (zok spX st (some this) 2).bind fun o9 => (gB o9 a1 st).bind fun q8 => fX2_readEither_L7 gB this zF a1 (0 : Int32) q8.2
set_option maxRecDepth 100000 in
set_option maxHeartbeats 4000000 in
theorem kX2_readEither (l : Launch) (Z : zZ) (b : Nat) (x : Option Nat) (gB : Nat → Int32 → zS → Option (Unit × zS)) (n : Nat) (nB : Nat) (hnB : nB ≤ n) (hB : ∀ (o : Nat) (a0 : Int32) (st : zS), zC l Z spX b x yX2_readBoth (.code yX2_readBoth cX2_readBoth 3 none) (rmR nB) rV [vP (some o), vI a0] st (gB o a0 st)) (this : Nat) (a1 : Int32) (st : zS) : zC l Z spX b x yX2_readEither (.code yX2_readEither cX2_readEither 3 none) (rmX2_readEither (n + 1)) rV [vP (some this), vI a1] st (fX2_readEither gB this a1 st) := by
  refine z_start (own := RX2) rfl (by decide +kernel) (Nat.le_of_ble_eq_true rfl) rfl (fun p e s m args below meth c res Q A X hK hr hlocks hQ => ?_)
  have J7 : ∀ (n7 : Nat) (y1 : Int32) (y2 : Int32) (st : zS), zs p l e (rmX2_readEither (n + 1)) s m args below meth c Q Z spX b x A 3 0 0 res (fX2_readEither_L7 gB this n7 y1 y2 st) 7 [(0, vP (some this)), (1, vI y1), (2, vI y2)] [] st := by
    intro n7
    induction n7 with
    | zero => intros; exact z_none
    | succ n7 ih7 =>
      intro y1 y2 st
      rw [fX2_readEither_L7]
      refine z_iload_n X (q := 2) dX2_readEither_7 rfl rfl ?_
      refine z_sipush X (v := (160 : Int32)) dX2_readEither_8 (by decide) ?_
      refine z_icmp_ge X (tgt := 43) dX2_readEither_11 (by decide) (fun _ => ?_) (fun _ => ?_)
      · subst hQ; exact z_vret X hlocks hr dX2_readEither_43
      · refine z_aload_n X (q := 0) dX2_readEither_14 rfl rfl ?_
        refine z_geti X hK (N := 5) (ci := 2) (k := 3) rfl (by decide) inlX2 (by decide) hf_X2_41 rfl spX_X2 rfl dX2_readEither_15 (fun o1 _ => ?_)
        refine z_iconst X (v := (1 : Int32)) dX2_readEither_18 (by decide) ?_
        refine z_icmp_ne X (tgt := 43) dX2_readEither_19 (by decide) (fun _ => ?_) (fun _ => ?_)
        · subst hQ; exact z_vret X hlocks hr dX2_readEither_43
        · refine z_aload_n X (q := 0) dX2_readEither_22 rfl rfl ?_
          refine z_callV X hK (As := []) (ci := 2) rfl (by decide) (fun o => (kX2_advance l Z  b x o _)) hk_X2_65 ⟨rfl, rfl⟩ hd_X2_advance (by constructor <;> simp only [rmR, rmX2_readEither, rmX2_advance] <;> omega) ⟨Nat.le_of_ble_eq_true rfl, Nat.le_of_ble_eq_true rfl⟩ rfl rfl (Nat.le_of_ble_eq_true rfl) dX2_readEither_23 (fun _ q2 _ => ?_)
          refine z_aload_n X (q := 0) dX2_readEither_26 rfl rfl ?_
          refine z_iload_n X (q := 1) dX2_readEither_27 rfl rfl ?_
          refine z_callV X hK (As := [vI y1]) (ci := 2) rfl (by decide) (fun o => (hB o _ _)) hk_X2_62 ⟨rfl, rfl⟩ hd_X2_readBoth (by constructor <;> simp only [rmR, rmX2_readEither] <;> omega) ⟨Nat.le_of_ble_eq_true rfl, Nat.le_of_ble_eq_true rfl⟩ rfl rfl (Nat.le_of_ble_eq_true rfl) dX2_readEither_28 (fun _ q3 _ => ?_)
          refine z_aload_n X (q := 0) dX2_readEither_31 rfl rfl ?_
          refine z_bipush X (v := (-17 : Int32)) dX2_readEither_32 (by decide) ?_
          refine z_callV X hK (As := [vI (-17 : Int32)]) (ci := 2) rfl (by decide) (fun o => (kX2_add l Z  b x o _ _)) hk_X2_68 ⟨rfl, rfl⟩ hd_X2_add (by constructor <;> simp only [rmR, rmX2_readEither, rmX2_add] <;> omega) ⟨Nat.le_of_ble_eq_true rfl, Nat.le_of_ble_eq_true rfl⟩ rfl rfl (Nat.le_of_ble_eq_true rfl) dX2_readEither_34 (fun _ q4 _ => ?_)
          refine z_iinc X (q := 2) (y := y2 + (1 : Int32)) dX2_readEither_37 rfl rfl (Nat.le_of_ble_eq_true rfl) rfl ?_
          refine z_goto X (tgt := 7) dX2_readEither_40 (by decide) ?_
          exact z_sub [1, 2, 0] (ih7 _ _ _) rfl
  rw [fX2_readEither]
  refine z_aload_n X (q := 0) dX2_readEither_0 rfl rfl ?_
  refine z_iload_n X (q := 1) dX2_readEither_1 rfl rfl ?_
  refine z_callV X hK (As := [vI a1]) (ci := 2) rfl (by decide) (fun o => (hB o _ _)) hk_X2_62 ⟨rfl, rfl⟩ hd_X2_readBoth (by constructor <;> simp only [rmR, rmX2_readEither] <;> omega) ⟨Nat.le_of_ble_eq_true rfl, Nat.le_of_ble_eq_true rfl⟩ rfl rfl (Nat.le_of_ble_eq_true rfl) dX2_readEither_2 (fun _ q8 _ => ?_)
  refine z_iconst X (v := (0 : Int32)) dX2_readEither_5 (by decide) ?_
  refine z_istore_n X dX2_readEither_6 rfl (Nat.le_of_ble_eq_true rfl) rfl ?_
  exact z_sub [1, 2, 0] (J7 _ _ _ _) rfl
abbrev rmX2_readEither7 : Room := { frames := 62, cells := 0, slots := 0, locals := 3960 }
def zRd : Nat → (Nat → Int32 → zS → Option (Unit × zS)) × ((Nat → Int32 → zS → Option (Unit × zS)) × (Nat → Int32 → zS → Option (Unit × zS)))
  | 0 => (fun _ _ _ => none, fun _ _ _ => none, fun _ _ _ => none)
  | d + 1 => (fX2_readEither (fX2_readBoth (fX2_readNot (zRd d).2.2 (fX2_readSum (fX2_readTerm (fX2_readOne (zRd d).1 (zRd d).2.1))))), fX2_readOne (zRd d).1 (zRd d).2.1, fX2_readNot (zRd d).2.2 (fX2_readSum (fX2_readTerm (fX2_readOne (zRd d).1 (zRd d).2.1))))
def zRdE : Nat → Nat
  | 0 => 0
  | d + 1 => zRdE d + 6
def zRdO : Nat → Nat
  | 0 => 0
  | d + 1 => zRdE d + 1
def zRdN : Nat → Nat
  | 0 => 0
  | d + 1 => zRdE d + 4
theorem zRdO_le : ∀ d, zRdO d ≤ zRdE d
  | 0 => Nat.le_refl _
  | d + 1 => Nat.add_le_add_left (by decide) _
theorem zRdN_le : ∀ d, zRdN d ≤ zRdE d
  | 0 => Nat.le_refl _
  | d + 1 => Nat.add_le_add_left (by decide) _
theorem kRd (l : Launch) (Z : zZ) (b : Nat) (x : Option Nat) : ∀ d : Nat, (∀ (o : Nat) (a0 : Int32) (st : zS), zC l Z spX b x yX2_readEither (.code yX2_readEither cX2_readEither 3 none) (rmR (zRdE d)) rV [vP (some o), vI a0] st ((zRd d).1 o a0 st)) ∧ (∀ (o : Nat) (a0 : Int32) (st : zS), zC l Z spX b x yX2_readOne (.code yX2_readOne cX2_readOne 2 none) (rmR (zRdO d)) rV [vP (some o), vI a0] st ((zRd d).2.1 o a0 st)) ∧ (∀ (o : Nat) (a0 : Int32) (st : zS), zC l Z spX b x yX2_readNot (.code yX2_readNot cX2_readNot 3 none) (rmR (zRdN d)) rV [vP (some o), vI a0] st ((zRd d).2.2 o a0 st))
  | 0 => ⟨fun _ _ _ r h => (nomatch (show (none : Option (Unit × zS)) = some r from h)), fun _ _ _ r h => (nomatch (show (none : Option (Unit × zS)) = some r from h)), fun _ _ _ r h => (nomatch (show (none : Option (Unit × zS)) = some r from h))⟩
  | d + 1 => by
    obtain ⟨hE, hO, hN⟩ := kRd l Z b x d
    have hO1 := kX2_readOne l Z b x (zRd d).1 (zRd d).2.1 (zRdE d) (zRdE d) (Nat.le_refl _) hE (zRdO d) (zRdO_le d) hO
    have hT1 := kX2_readTerm l Z b x (fX2_readOne (zRd d).1 (zRd d).2.1) (zRdE d + 1) (zRdE d + 1) (Nat.le_refl _) hO1
    have hS1 := kX2_readSum l Z b x (fX2_readTerm (fX2_readOne (zRd d).1 (zRd d).2.1)) (zRdE d + 2) (zRdE d + 2) (Nat.le_refl _) hT1
    have hN1 := kX2_readNot l Z b x (zRd d).2.2 (fX2_readSum (fX2_readTerm (fX2_readOne (zRd d).1 (zRd d).2.1))) (zRdE d + 3) (zRdN d) (Nat.le_trans (zRdN_le d) (Nat.le_add_right _ _)) hN (zRdE d + 3) (Nat.le_refl _) hS1
    have hB1 := kX2_readBoth l Z b x (fX2_readNot (zRd d).2.2 (fX2_readSum (fX2_readTerm (fX2_readOne (zRd d).1 (zRd d).2.1)))) (zRdE d + 4) (zRdE d + 4) (Nat.le_refl _) hN1
    have hE1 := kX2_readEither l Z b x (fX2_readBoth (fX2_readNot (zRd d).2.2 (fX2_readSum (fX2_readTerm (fX2_readOne (zRd d).1 (zRd d).2.1))))) (zRdE d + 5) (zRdE d + 5) (Nat.le_refl _) hB1
    exact ⟨hE1, hO1, hN1⟩
theorem kRd_E (l : Launch) (Z : zZ) (b : Nat) (x : Option Nat) (o : Nat) (a0 : Int32) (st : zS) : zC l Z spX b x yX2_readEither (.code yX2_readEither cX2_readEither 3 none) rmX2_readEither7 rV [vP (some o), vI a0] st ((zRd 7).1 o a0 st) := (kRd l Z b x 7).1 o a0 st

theorem zw_302 : Cond.methodLink RX2 59 yX4_endPart ∈ wsL_law := zr_34 _ (by decide +kernel)
theorem hk_X2_59 : ∀ w ∈ ([Cond.methodLink RX2 59 yX4_endPart, Cond.instanceMethod yX4_endPart, Cond.selects RX4 yX4_endPart yX4_endPart, Cond.initialized RX4, Cond.code yX4_endPart cX4_endPart 1 none] : List Cond), w ∈ wsL_law := List.forall_mem_cons.mpr ⟨zw_302, List.forall_mem_cons.mpr ⟨zw_62, List.forall_mem_cons.mpr ⟨zw_63, List.forall_mem_cons.mpr ⟨zw_55, List.forall_mem_cons.mpr ⟨zw_64, fun _ h => absurd h List.not_mem_nil⟩⟩⟩⟩⟩
abbrev rmX2_readPart : Room := { frames := 63, cells := 0, slots := 0, locals := 3982 }
def fX2_readPart (this : Nat) (a1 : Int32) (st : zS) : Option (Unit × zS) :=
  (zok spX st (some this) 2).bind fun o10 => (fX2_expect o10 a1 st).bind fun q1 => (zok spX q1.2 (some this) 2).bind fun o9 => ((zRd 7).1 o9 (0 : Int32) q1.2).bind fun q2 => (zok spX q2.2 (some this) 2).bind fun o8 => (fX2_expect o8 (59 : Int32) q2.2).bind fun q3 => (zok spX q3.2 (some this) 2).bind fun o4 => if (q3.2.2.2.2 o4 1) = none then (some ((), q3.2)) else ((zok spX q3.2 (some this) 2).bind fun o5 => (zok spX q3.2 (q3.2.2.2.2 o5 1) 4).bind fun o7 => (fX4_endPart o7 q3.2).bind fun q6 => some ((), q6.2))
set_option maxRecDepth 100000 in
set_option maxHeartbeats 4000000 in
theorem kX2_readPart (l : Launch) (Z : zZ) (b : Nat) (x : Option Nat) (this : Nat) (a1 : Int32) (st : zS) : zC l Z spX b x yX2_readPart (.code yX2_readPart cX2_readPart 2 none) (rmX2_readPart) rV [vP (some this), vI a1] st (fX2_readPart this a1 st) := by
  refine z_start (own := RX2) rfl (by decide +kernel) (Nat.le_of_ble_eq_true rfl) rfl (fun p e s m args below meth c res Q A X hK hr hlocks hQ => ?_)
  rw [fX2_readPart]
  refine z_aload_n X (q := 0) dX2_readPart_0 rfl rfl ?_
  refine z_iload_n X (q := 1) dX2_readPart_1 rfl rfl ?_
  refine z_callV X hK (As := [vI a1]) (ci := 2) rfl (by decide) (fun o => (kX2_expect l Z  b x o _ _)) hk_X2_53 ⟨rfl, rfl⟩ hd_X2_expect ⟨Nat.le_of_ble_eq_true rfl, Nat.le_of_ble_eq_true rfl⟩ ⟨Nat.le_of_ble_eq_true rfl, Nat.le_of_ble_eq_true rfl⟩ rfl rfl (Nat.le_of_ble_eq_true rfl) dX2_readPart_2 (fun _ q1 _ => ?_)
  refine z_aload_n X (q := 0) dX2_readPart_5 rfl rfl ?_
  refine z_iconst X (v := (0 : Int32)) dX2_readPart_6 (by decide) ?_
  refine z_callV X hK (As := [vI (0 : Int32)]) (ci := 2) rfl (by decide) (fun o => (kRd_E l Z b x o _ _)) hk_X2_56 ⟨rfl, rfl⟩ hd_X2_readEither ⟨Nat.le_of_ble_eq_true rfl, Nat.le_of_ble_eq_true rfl⟩ ⟨Nat.le_of_ble_eq_true rfl, Nat.le_of_ble_eq_true rfl⟩ rfl rfl (Nat.le_of_ble_eq_true rfl) dX2_readPart_7 (fun _ q2 _ => ?_)
  refine z_aload_n X (q := 0) dX2_readPart_10 rfl rfl ?_
  refine z_bipush X (v := (59 : Int32)) dX2_readPart_11 (by decide) ?_
  refine z_callV X hK (As := [vI (59 : Int32)]) (ci := 2) rfl (by decide) (fun o => (kX2_expect l Z  b x o _ _)) hk_X2_53 ⟨rfl, rfl⟩ hd_X2_expect ⟨Nat.le_of_ble_eq_true rfl, Nat.le_of_ble_eq_true rfl⟩ ⟨Nat.le_of_ble_eq_true rfl, Nat.le_of_ble_eq_true rfl⟩ rfl rfl (Nat.le_of_ble_eq_true rfl) dX2_readPart_13 (fun _ q3 _ => ?_)
  refine z_aload_n X (q := 0) dX2_readPart_16 rfl rfl ?_
  refine z_getr X hK (N := 5) (ci := 2) (k := 1) rfl (by decide) inlX2 (by decide) hf_X2_25 rfl spX_X2 rfl dX2_readPart_17 (fun o4 _ => ?_)
  refine z_ifnull X (tgt := 30) dX2_readPart_20 (by decide) (fun _ => ?_) (fun _ => ?_)
  · subst hQ; exact z_vret X hlocks hr dX2_readPart_30
  · refine z_aload_n X (q := 0) dX2_readPart_23 rfl rfl ?_
    refine z_getr X hK (N := 5) (ci := 2) (k := 1) rfl (by decide) inlX2 (by decide) hf_X2_25 rfl spX_X2 rfl dX2_readPart_24 (fun o5 _ => ?_)
    refine z_callV X hK (As := []) (ci := 4) rfl (by decide) (fun o => (kX4_endPart l Z  b x o _)) hk_X2_59 ⟨rfl, rfl⟩ hd_X4_endPart ⟨Nat.le_of_ble_eq_true rfl, Nat.le_of_ble_eq_true rfl⟩ ⟨Nat.le_of_ble_eq_true rfl, Nat.le_of_ble_eq_true rfl⟩ rfl rfl (Nat.le_of_ble_eq_true rfl) dX2_readPart_27 (fun _ q6 _ => ?_)
    subst hQ; exact z_vret X hlocks hr dX2_readPart_30
theorem zw_303 : Cond.methodLink RX2 20 yX4_clear ∈ wsL_law := zr_28 _ (by decide +kernel)
theorem hk_X2_20 : ∀ w ∈ ([Cond.methodLink RX2 20 yX4_clear, Cond.instanceMethod yX4_clear, Cond.selects RX4 yX4_clear yX4_clear, Cond.initialized RX4, Cond.code yX4_clear cX4_clear 1 none] : List Cond), w ∈ wsL_law := List.forall_mem_cons.mpr ⟨zw_303, List.forall_mem_cons.mpr ⟨zw_53, List.forall_mem_cons.mpr ⟨zw_54, List.forall_mem_cons.mpr ⟨zw_55, List.forall_mem_cons.mpr ⟨zw_56, fun _ h => absurd h List.not_mem_nil⟩⟩⟩⟩⟩
theorem zw_304 : Cond.methodLink RX2 29 yX5_scan ∈ wsL_law := zr_28 _ (by decide +kernel)
theorem zw_305 : Cond.instanceMethod yX5_scan ∈ wsL_law := zr_28 _ (by decide +kernel)
theorem zw_306 : Cond.selects RX5 yX5_scan yX5_scan ∈ wsL_law := zr_28 _ (by decide +kernel)
theorem zw_307 : Cond.code yX5_scan cX5_scan 4 none ∈ wsL_law := zr_28 _ (by decide +kernel)
theorem hk_X2_29 : ∀ w ∈ ([Cond.methodLink RX2 29 yX5_scan, Cond.instanceMethod yX5_scan, Cond.selects RX5 yX5_scan yX5_scan, Cond.initialized RX5, Cond.code yX5_scan cX5_scan 4 none] : List Cond), w ∈ wsL_law := List.forall_mem_cons.mpr ⟨zw_304, List.forall_mem_cons.mpr ⟨zw_305, List.forall_mem_cons.mpr ⟨zw_306, List.forall_mem_cons.mpr ⟨zw_90, List.forall_mem_cons.mpr ⟨zw_307, fun _ h => absurd h List.not_mem_nil⟩⟩⟩⟩⟩
theorem zw_308 : Cond.methodLink RX2 47 yX2_readPart ∈ wsL_law := zr_32 _ (by decide +kernel)
theorem zw_309 : Cond.instanceMethod yX2_readPart ∈ wsL_law := zr_32 _ (by decide +kernel)
theorem zw_310 : Cond.selects RX2 yX2_readPart yX2_readPart ∈ wsL_law := zr_32 _ (by decide +kernel)
theorem zw_311 : Cond.code yX2_readPart cX2_readPart 2 none ∈ wsL_law := zr_32 _ (by decide +kernel)
theorem hk_X2_47 : ∀ w ∈ ([Cond.methodLink RX2 47 yX2_readPart, Cond.instanceMethod yX2_readPart, Cond.selects RX2 yX2_readPart yX2_readPart, Cond.initialized RX2, Cond.code yX2_readPart cX2_readPart 2 none] : List Cond), w ∈ wsL_law := List.forall_mem_cons.mpr ⟨zw_308, List.forall_mem_cons.mpr ⟨zw_309, List.forall_mem_cons.mpr ⟨zw_310, List.forall_mem_cons.mpr ⟨zw_253, List.forall_mem_cons.mpr ⟨zw_311, fun _ h => absurd h List.not_mem_nil⟩⟩⟩⟩⟩
theorem hd_X2_readPart : yX2_readPart.cls = RX2 ∧ yX2_readPart.cls ≠ "java/lang/invoke/MethodHandle" ∧ yX2_readPart.cls ≠ "java/lang/invoke/VarHandle" ∧ (parseMethodDescriptor yX2_readPart.desc).map (fun d => d.parameters.length) = some 1 := by decide +kernel
theorem hd_X5_scan : yX5_scan.cls = RX5 ∧ yX5_scan.cls ≠ "java/lang/invoke/MethodHandle" ∧ yX5_scan.cls ≠ "java/lang/invoke/VarHandle" ∧ (parseMethodDescriptor yX5_scan.desc).map (fun d => d.parameters.length) = some 1 := by decide +kernel
abbrev rmX2_read : Room := { frames := 64, cells := 0, slots := 0, locals := 4003 }
def fX2_read (this : Nat) (a1 : Int32) (a2 : Option Nat) (st : zS) : Option (Int32 × zS) :=
  (zok spX st a2 4).bind fun o27 => (fX4_clear o27 st).bind fun q1 => (zok spX q1.2 (some this) 2).bind fun o2 => zlet (zpr q1.2 o2 1 a2) fun st3 => (zok spX st3 (some this) 2).bind fun o4 => (zok spX st3 (st3.2.2.2 o4 0) 5).bind fun o26 => (fX5_scan o26 a1 st3).bind fun q5 => (zok spX q5.2 (some this) 2).bind fun o6 => zlet (zp q5.2 o6 2 (0 : Int32)) fun st7 => (zok spX st7 (some this) 2).bind fun o8 => (zok spX st7 (st7.2.2.2 o8 0) 5).bind fun o25 => (fX5_sortOf o25 (0 : Int32) st7).bind fun q9 => (zok spX q9.2 (some this) 2).bind fun o10 => zlet (zp q9.2 o10 3 q9.1) fun st11 => (zok spX st11 (some this) 2).bind fun o12 => zlet (zp st11 o12 4 (-1 : Int32)) fun st13 => (zok spX st13 (some this) 2).bind fun o24 => (fX2_readPart o24 (4 : Int32) st13).bind fun q14 => (zok spX q14.2 (some this) 2).bind fun o23 => (fX2_readPart o23 (5 : Int32) q14.2).bind fun q15 => (zok spX q15.2 (some this) 2).bind fun o22 => (fX2_readPart o22 (6 : Int32) q15.2).bind fun q16 => (zok spX q16.2 (some this) 2).bind fun o17 => if (q16.2.2.1 o17 3) = (8 : Int32) then ((zok spX q16.2 (some this) 2).bind fun o18 => some ((q16.2.2.1 o18 4), q16.2)) else ((zok spX q16.2 (some this) 2).bind fun o21 => (fX2_fail o21 q16.2).bind fun q19 => (zok spX q19.2 (some this) 2).bind fun o20 => some ((q19.2.2.1 o20 4), q19.2))
set_option maxRecDepth 100000 in
set_option maxHeartbeats 4000000 in
theorem kX2_read (l : Launch) (Z : zZ) (b : Nat) (x : Option Nat) (this : Nat) (a1 : Int32) (a2 : Option Nat) (st : zS) : zC l Z spX b x yX2_read (.code yX2_read cX2_read 3 (some .int)) (rmX2_read) rI [vP (some this), vI a1, vP a2] st (fX2_read this a1 a2 st) := by
  refine z_start (own := RX2) rfl (by decide +kernel) (Nat.le_of_ble_eq_true rfl) rfl (fun p e s m args below meth c res Q A X hK hr hlocks hQ => ?_)
  rw [fX2_read]
  refine z_aload_n X (q := 2) dX2_read_0 rfl rfl ?_
  refine z_callV X hK (As := []) (ci := 4) rfl (by decide) (fun o => (kX4_clear l Z  b x o _)) hk_X2_20 ⟨rfl, rfl⟩ hd_X4_clear ⟨Nat.le_of_ble_eq_true rfl, Nat.le_of_ble_eq_true rfl⟩ ⟨Nat.le_of_ble_eq_true rfl, Nat.le_of_ble_eq_true rfl⟩ rfl rfl (Nat.le_of_ble_eq_true rfl) dX2_read_1 (fun _ q1 _ => ?_)
  refine z_aload_n X (q := 0) dX2_read_4 rfl rfl ?_
  refine z_aload_n X (q := 2) dX2_read_5 rfl rfl ?_
  refine z_putr X hK (N := 5) (ci := 2) (k := 1) rfl (by decide) inlX2 tyX2 tyX2_ok nmX2 (by decide) hf_X2_25 rfl rfl spX_X2 rfl (ty := tyX2 1) (by decide +kernel) (fun r => by cases r <;> exact ⟨rfl, rfl⟩) dX2_read_6 (fun o2 st3 _ => ?_)
  refine z_aload_n X (q := 0) dX2_read_9 rfl rfl ?_
  refine z_getr X hK (N := 5) (ci := 2) (k := 0) rfl (by decide) inlX2 (by decide) hf_X2_14 rfl spX_X2 rfl dX2_read_10 (fun o4 _ => ?_)
  refine z_iload_n X (q := 1) dX2_read_13 rfl rfl ?_
  refine z_callV X hK (As := [vI a1]) (ci := 5) rfl (by decide) (fun o => (kX5_scan l Z  b x o _ _)) hk_X2_29 ⟨rfl, rfl⟩ hd_X5_scan ⟨Nat.le_of_ble_eq_true rfl, Nat.le_of_ble_eq_true rfl⟩ ⟨Nat.le_of_ble_eq_true rfl, Nat.le_of_ble_eq_true rfl⟩ rfl rfl (Nat.le_of_ble_eq_true rfl) dX2_read_14 (fun _ q5 _ => ?_)
  refine z_aload_n X (q := 0) dX2_read_17 rfl rfl ?_
  refine z_iconst X (v := (0 : Int32)) dX2_read_18 (by decide) ?_
  refine z_puti X hK (N := 5) (ci := 2) (k := 2) rfl (by decide) inlX2 tyX2 tyX2_ok nmX2 (by decide) hf_X2_33 rfl rfl spX_X2 rfl (by decide +kernel) dX2_read_19 (fun o6 st7 _ => ?_)
  refine z_aload_n X (q := 0) dX2_read_22 rfl rfl ?_
  refine z_aload_n X (q := 0) dX2_read_23 rfl rfl ?_
  refine z_getr X hK (N := 5) (ci := 2) (k := 0) rfl (by decide) inlX2 (by decide) hf_X2_14 rfl spX_X2 rfl dX2_read_24 (fun o8 _ => ?_)
  refine z_iconst X (v := (0 : Int32)) dX2_read_27 (by decide) ?_
  refine z_callV X hK (As := [vI (0 : Int32)]) (ci := 5) rfl (by decide) (fun o => (kX5_sortOf l Z  b x o _ _)) hk_X2_37 ⟨rfl, rfl⟩ hd_X5_sortOf ⟨Nat.le_of_ble_eq_true rfl, Nat.le_of_ble_eq_true rfl⟩ ⟨Nat.le_of_ble_eq_true rfl, Nat.le_of_ble_eq_true rfl⟩ rfl rfl (Nat.le_of_ble_eq_true rfl) dX2_read_28 (fun _ q9 _ => ?_)
  refine z_puti X hK (N := 5) (ci := 2) (k := 3) rfl (by decide) inlX2 tyX2 tyX2_ok nmX2 (by decide) hf_X2_41 rfl rfl spX_X2 rfl (by decide +kernel) dX2_read_31 (fun o10 st11 _ => ?_)
  refine z_aload_n X (q := 0) dX2_read_34 rfl rfl ?_
  refine z_iconst X (v := (-1 : Int32)) dX2_read_35 (by decide) ?_
  refine z_puti X hK (N := 5) (ci := 2) (k := 4) rfl (by decide) inlX2 tyX2 tyX2_ok nmX2 (by decide) hf_X2_44 rfl rfl spX_X2 rfl (by decide +kernel) dX2_read_36 (fun o12 st13 _ => ?_)
  refine z_aload_n X (q := 0) dX2_read_39 rfl rfl ?_
  refine z_iconst X (v := (4 : Int32)) dX2_read_40 (by decide) ?_
  refine z_callV X hK (As := [vI (4 : Int32)]) (ci := 2) rfl (by decide) (fun o => (kX2_readPart l Z  b x o _ _)) hk_X2_47 ⟨rfl, rfl⟩ hd_X2_readPart ⟨Nat.le_of_ble_eq_true rfl, Nat.le_of_ble_eq_true rfl⟩ ⟨Nat.le_of_ble_eq_true rfl, Nat.le_of_ble_eq_true rfl⟩ rfl rfl (Nat.le_of_ble_eq_true rfl) dX2_read_41 (fun _ q14 _ => ?_)
  refine z_aload_n X (q := 0) dX2_read_44 rfl rfl ?_
  refine z_iconst X (v := (5 : Int32)) dX2_read_45 (by decide) ?_
  refine z_callV X hK (As := [vI (5 : Int32)]) (ci := 2) rfl (by decide) (fun o => (kX2_readPart l Z  b x o _ _)) hk_X2_47 ⟨rfl, rfl⟩ hd_X2_readPart ⟨Nat.le_of_ble_eq_true rfl, Nat.le_of_ble_eq_true rfl⟩ ⟨Nat.le_of_ble_eq_true rfl, Nat.le_of_ble_eq_true rfl⟩ rfl rfl (Nat.le_of_ble_eq_true rfl) dX2_read_46 (fun _ q15 _ => ?_)
  refine z_aload_n X (q := 0) dX2_read_49 rfl rfl ?_
  refine z_bipush X (v := (6 : Int32)) dX2_read_50 (by decide) ?_
  refine z_callV X hK (As := [vI (6 : Int32)]) (ci := 2) rfl (by decide) (fun o => (kX2_readPart l Z  b x o _ _)) hk_X2_47 ⟨rfl, rfl⟩ hd_X2_readPart ⟨Nat.le_of_ble_eq_true rfl, Nat.le_of_ble_eq_true rfl⟩ ⟨Nat.le_of_ble_eq_true rfl, Nat.le_of_ble_eq_true rfl⟩ rfl rfl (Nat.le_of_ble_eq_true rfl) dX2_read_52 (fun _ q16 _ => ?_)
  refine z_aload_n X (q := 0) dX2_read_55 rfl rfl ?_
  refine z_geti X hK (N := 5) (ci := 2) (k := 3) rfl (by decide) inlX2 (by decide) hf_X2_41 rfl spX_X2 rfl dX2_read_56 (fun o17 _ => ?_)
  refine z_bipush X (v := (8 : Int32)) dX2_read_59 (by decide) ?_
  refine z_icmp_eq X (tgt := 68) dX2_read_61 (by decide) (fun _ => ?_) (fun _ => ?_)
  · refine z_aload_n X (q := 0) dX2_read_68 rfl rfl ?_
    refine z_geti X hK (N := 5) (ci := 2) (k := 4) rfl (by decide) inlX2 (by decide) hf_X2_44 rfl spX_X2 rfl dX2_read_69 (fun o18 _ => ?_)
    subst hQ; exact z_iret X hlocks hr dX2_read_72
  · refine z_aload_n X (q := 0) dX2_read_64 rfl rfl ?_
    refine z_callV X hK (As := []) (ci := 2) rfl (by decide) (fun o => (kX2_fail l Z  b x o _)) hk_X2_50 ⟨rfl, rfl⟩ hd_X2_fail ⟨Nat.le_of_ble_eq_true rfl, Nat.le_of_ble_eq_true rfl⟩ ⟨Nat.le_of_ble_eq_true rfl, Nat.le_of_ble_eq_true rfl⟩ rfl rfl (Nat.le_of_ble_eq_true rfl) dX2_read_65 (fun _ q19 _ => ?_)
    refine z_aload_n X (q := 0) dX2_read_68 rfl rfl ?_
    refine z_geti X hK (N := 5) (ci := 2) (k := 4) rfl (by decide) inlX2 (by decide) hf_X2_44 rfl spX_X2 rfl dX2_read_69 (fun o20 _ => ?_)
    subst hQ; exact z_iret X hlocks hr dX2_read_72
