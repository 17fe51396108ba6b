abbrev rmX7_isAsked : Room := { frames := 1, cells := 0, slots := 0, locals := 40 }
def fX7_isAsked_j16 (st : zS) : Option (Int32 × zS) :=
  some ((0 : Int32), st)
def fX7_isAsked (a0 : Int32) (st : zS) : Option (Int32 × zS) :=
  if a0 < (1 : Int32) then (fX7_isAsked_j16 st) else (if (4095 : Int32) < a0 then (fX7_isAsked_j16 st) else (some ((1 : Int32), st)))
set_option maxRecDepth 100000 in
set_option maxHeartbeats 4000000 in
theorem kX7_isAsked (l : Launch) (Z : zZ) (b : Nat) (x : Option Nat) (a0 : Int32) (st : zS) : zC l Z spX b x yX7_isAsked (.code yX7_isAsked cX7_isAsked 1 (some .boolean)) (rmX7_isAsked) rI [vI a0] st (fX7_isAsked a0 st) := by
  refine z_start (own := RX7) rfl (by decide +kernel) (Nat.le_of_ble_eq_true rfl) rfl (fun p e s m args below meth c res Q A X hK hr hlocks hQ => ?_)
  have J16 : ∀ (st : zS), zs p l e (rmX7_isAsked) s m args below meth c Q Z spX b x A 1 0 0 res (fX7_isAsked_j16 st) 16 [] [] st := by
    intro  st
    rw [fX7_isAsked_j16]
    refine z_iconst X (v := (0 : Int32)) dX7_isAsked_16 (by decide) ?_
    subst hQ; exact z_zretc X hlocks hr (by decide) dX7_isAsked_17
  rw [fX7_isAsked]
  refine z_iload_n X (q := 0) dX7_isAsked_0 rfl rfl ?_
  refine z_iconst X (v := (1 : Int32)) dX7_isAsked_1 (by decide) ?_
  refine z_icmp_lt X (tgt := 16) dX7_isAsked_2 (by decide) (fun _ => ?_) (fun _ => ?_)
  · exact z_sub [] (J16  _) rfl
  · refine z_iload_n X (q := 0) dX7_isAsked_5 rfl rfl ?_
    refine z_sipush X (v := (4095 : Int32)) dX7_isAsked_6 (by decide) ?_
    refine z_icmp_gt X (tgt := 16) dX7_isAsked_9 (by decide) (fun _ => ?_) (fun _ => ?_)
    · exact z_sub [] (J16  _) rfl
    · refine z_iconst X (v := (1 : Int32)) dX7_isAsked_12 (by decide) ?_
      refine z_goto X (tgt := 17) dX7_isAsked_13 (by decide) ?_
      subst hQ; exact z_zretc X hlocks hr (by decide) dX7_isAsked_17
theorem zw_312 : Cond.fieldLink RX7 21 "WellGivesOther" "seats" "[LWellGivesOther$Asker;" ∈ wsL_law := zr_1 _ (by decide +kernel)
theorem hf_X7_21 : Cond.fieldLink RX7 21 "WellGivesOther" "seats" "[LWellGivesOther$Asker;" ∈ wsL_law := zw_312
theorem zw_313 : Cond.fieldLink RX7 99 "WellGivesOther" "askerCount" "I" ∈ wsL_law := zr_8 _ (by decide +kernel)
theorem hf_X7_99 : Cond.fieldLink RX7 99 "WellGivesOther" "askerCount" "I" ∈ wsL_law := zw_313
abbrev rmX7_seat : Room := { frames := 1, cells := 0, slots := 0, locals := 40 }
def fX7_seat_j30 (this : Nat) (st : zS) : Option (Option Nat × zS) :=
  some (none, st)
def fX7_seat (this : Nat) (a1 : Int32) (st : zS) : Option (Option Nat × zS) :=
  if a1 < 0 then (fX7_seat_j30 this st) else ((zok spX st (some this) 7).bind fun o1 => if (st.2.1 o1 10) ≤ a1 then (fX7_seat_j30 this st) else ((zok spX st (some this) 7).bind fun o2 => (zla spX st (st.2.2.2 o2 3)).bind fun o3 => if (Int32.ofNat (spX o3).2) ≤ a1 then (fX7_seat_j30 this st) else ((zok spX st (some this) 7).bind fun o4 => (zok spX st (st.2.2.2 o4 3) 11).bind fun o5 => (zix spX o5 a1).bind fun j6 => some ((st.2.2.2 o5 j6), st))))
set_option maxRecDepth 100000 in
set_option maxHeartbeats 4000000 in
theorem kX7_seat (l : Launch) (Z : zZ) (b : Nat) (x : Option Nat) (this : Nat) (a1 : Int32) (st : zS) : zC l Z spX b x yX7_seat (.code yX7_seat cX7_seat 2 (some (.object "WellGivesOther$Asker"))) (rmX7_seat) rP [vP (some this), vI a1] st (fX7_seat this a1 st) := by
  refine z_start (own := RX7) rfl (by decide +kernel) (Nat.le_of_ble_eq_true rfl) rfl (fun p e s m args below meth c res Q A X hK hr hlocks hQ => ?_)
  have J30 : ∀ (st : zS), zs p l e (rmX7_seat) s m args below meth c Q Z spX b x A 2 0 0 res (fX7_seat_j30 this st) 30 [] [] st := by
    intro  st
    rw [fX7_seat_j30]
    refine z_null X dX7_seat_30 ?_
    subst hQ; exact z_aret X hlocks hr dX7_seat_31
  rw [fX7_seat]
  refine z_iload_n X (q := 1) dX7_seat_0 rfl rfl ?_
  refine z_if_lt X (tgt := 30) dX7_seat_1 (by decide) (fun _ => ?_) (fun _ => ?_)
  · exact z_sub [] (J30  _) rfl
  · refine z_iload_n X (q := 1) dX7_seat_4 rfl rfl ?_
    refine z_aload_n X (q := 0) dX7_seat_5 rfl rfl ?_
    refine z_geti X hK (N := 14) (ci := 7) (k := 10) rfl (by decide) inlX7 (by decide) hf_X7_99 rfl spX_X7 rfl dX7_seat_6 (fun o1 _ => ?_)
    refine z_icmp_ge X (tgt := 30) dX7_seat_9 (by decide) (fun _ => ?_) (fun _ => ?_)
    · exact z_sub [] (J30  _) rfl
    · refine z_iload_n X (q := 1) dX7_seat_12 rfl rfl ?_
      refine z_aload_n X (q := 0) dX7_seat_13 rfl rfl ?_
      refine z_getr X hK (N := 14) (ci := 7) (k := 3) rfl (by decide) inlX7 (by decide) hf_X7_21 rfl spX_X7 rfl dX7_seat_14 (fun o2 _ => ?_)
      refine z_alen X hK dX7_seat_17 spX_14 (fun o3 _ => ?_)
      refine z_icmp_ge X (tgt := 30) dX7_seat_18 (by decide) (fun _ => ?_) (fun _ => ?_)
      · exact z_sub [] (J30  _) rfl
      · refine z_aload_n X (q := 0) dX7_seat_21 rfl rfl ?_
        refine z_getr X hK (N := 14) (ci := 7) (k := 3) rfl (by decide) inlX7 (by decide) hf_X7_21 rfl spX_X7 rfl dX7_seat_22 (fun o4 _ => ?_)
        refine z_iload_n X (q := 1) dX7_seat_25 rfl rfl ?_
        refine z_aald11 X hK dX7_seat_26 (fun o5 j6 _ _ => ?_)
        refine z_goto X (tgt := 31) dX7_seat_27 (by decide) ?_
        subst hQ; exact z_aret X hlocks hr dX7_seat_31
theorem zw_314 : Cond.fieldLink RX7 27 "WellGivesOther" "texts" "[LWellGivesOther$Text;" ∈ wsL_law := zr_1 _ (by decide +kernel)
theorem hf_X7_27 : Cond.fieldLink RX7 27 "WellGivesOther" "texts" "[LWellGivesOther$Text;" ∈ wsL_law := zw_314
abbrev rmX7_textAt : Room := { frames := 1, cells := 0, slots := 0, locals := 40 }
def fX7_textAt_j22 (this : Nat) (st : zS) : Option (Option Nat × zS) :=
  some (none, st)
def fX7_textAt (this : Nat) (a1 : Int32) (st : zS) : Option (Option Nat × zS) :=
  if a1 < 0 then (fX7_textAt_j22 this st) else ((zok spX st (some this) 7).bind fun o1 => (zla spX st (st.2.2.2 o1 4)).bind fun o2 => if (Int32.ofNat (spX o2).2) ≤ a1 then (fX7_textAt_j22 this st) else ((zok spX st (some this) 7).bind fun o3 => (zok spX st (st.2.2.2 o3 4) 13).bind fun o4 => (zix spX o4 a1).bind fun j5 => some ((st.2.2.2 o4 j5), st)))
set_option maxRecDepth 100000 in
set_option maxHeartbeats 4000000 in
theorem kX7_textAt (l : Launch) (Z : zZ) (b : Nat) (x : Option Nat) (this : Nat) (a1 : Int32) (st : zS) : zC l Z spX b x yX7_textAt (.code yX7_textAt cX7_textAt 2 (some (.object "WellGivesOther$Text"))) (rmX7_textAt) rP [vP (some this), vI a1] st (fX7_textAt this a1 st) := by
  refine z_start (own := RX7) rfl (by decide +kernel) (Nat.le_of_ble_eq_true rfl) rfl (fun p e s m args below meth c res Q A X hK hr hlocks hQ => ?_)
  have J22 : ∀ (st : zS), zs p l e (rmX7_textAt) s m args below meth c Q Z spX b x A 2 0 0 res (fX7_textAt_j22 this st) 22 [] [] st := by
    intro  st
    rw [fX7_textAt_j22]
    refine z_null X dX7_textAt_22 ?_
    subst hQ; exact z_aret X hlocks hr dX7_textAt_23
  rw [fX7_textAt]
  refine z_iload_n X (q := 1) dX7_textAt_0 rfl rfl ?_
  refine z_if_lt X (tgt := 22) dX7_textAt_1 (by decide) (fun _ => ?_) (fun _ => ?_)
  · exact z_sub [] (J22  _) rfl
  · refine z_iload_n X (q := 1) dX7_textAt_4 rfl rfl ?_
    refine z_aload_n X (q := 0) dX7_textAt_5 rfl rfl ?_
    refine z_getr X hK (N := 14) (ci := 7) (k := 4) rfl (by decide) inlX7 (by decide) hf_X7_27 rfl spX_X7 rfl dX7_textAt_6 (fun o1 _ => ?_)
    refine z_alen X hK dX7_textAt_9 spX_14 (fun o2 _ => ?_)
    refine z_icmp_ge X (tgt := 22) dX7_textAt_10 (by decide) (fun _ => ?_) (fun _ => ?_)
    · exact z_sub [] (J22  _) rfl
    · refine z_aload_n X (q := 0) dX7_textAt_13 rfl rfl ?_
      refine z_getr X hK (N := 14) (ci := 7) (k := 4) rfl (by decide) inlX7 (by decide) hf_X7_27 rfl spX_X7 rfl dX7_textAt_14 (fun o3 _ => ?_)
      refine z_iload_n X (q := 1) dX7_textAt_17 rfl rfl ?_
      refine z_aald13 X hK dX7_textAt_18 (fun o4 j5 _ _ => ?_)
      refine z_goto X (tgt := 23) dX7_textAt_19 (by decide) ?_
      subst hQ; exact z_aret X hlocks hr dX7_textAt_23
theorem zw_315 : Cond.methodLink RX7 309 yX6_begin ∈ wsL_law := zr_21 _ (by decide +kernel)
theorem zw_316 : Cond.instanceMethod yX6_begin ∈ wsL_law := zr_21 _ (by decide +kernel)
theorem zw_317 : Cond.selects RX6 yX6_begin yX6_begin ∈ wsL_law := zr_21 _ (by decide +kernel)
theorem zw_318 : Cond.code yX6_begin cX6_begin 5 none ∈ wsL_law := zr_21 _ (by decide +kernel)
theorem hk_X7_309 : ∀ w ∈ ([Cond.methodLink RX7 309 yX6_begin, Cond.instanceMethod yX6_begin, Cond.selects RX6 yX6_begin yX6_begin, Cond.initialized RX6, Cond.code yX6_begin cX6_begin 5 none] : List Cond), w ∈ wsL_law := List.forall_mem_cons.mpr ⟨zw_315, List.forall_mem_cons.mpr ⟨zw_316, List.forall_mem_cons.mpr ⟨zw_317, List.forall_mem_cons.mpr ⟨zw_137, List.forall_mem_cons.mpr ⟨zw_318, fun _ h => absurd h List.not_mem_nil⟩⟩⟩⟩⟩
theorem zw_319 : Cond.methodLink RX7 67 yX7_textAt ∈ wsL_law := zr_4 _ (by decide +kernel)
theorem zw_320 : Cond.instanceMethod yX7_textAt ∈ wsL_law := zr_4 _ (by decide +kernel)
theorem zw_321 : Cond.selects RX7 yX7_textAt yX7_textAt ∈ wsL_law := zr_4 _ (by decide +kernel)
theorem zw_322 : Cond.initialized RX7 ∈ wsL_law := zr_1 _ (by decide +kernel)
theorem zw_323 : Cond.code yX7_textAt cX7_textAt 2 (some (.object "WellGivesOther$Text")) ∈ wsL_law := zr_4 _ (by decide +kernel)
theorem hk_X7_67 : ∀ w ∈ ([Cond.methodLink RX7 67 yX7_textAt, Cond.instanceMethod yX7_textAt, Cond.selects RX7 yX7_textAt yX7_textAt, Cond.initialized RX7, Cond.code yX7_textAt cX7_textAt 2 (some (.object "WellGivesOther$Text"))] : List Cond), w ∈ wsL_law := List.forall_mem_cons.mpr ⟨zw_319, List.forall_mem_cons.mpr ⟨zw_320, List.forall_mem_cons.mpr ⟨zw_321, List.forall_mem_cons.mpr ⟨zw_322, List.forall_mem_cons.mpr ⟨zw_323, fun _ h => absurd h List.not_mem_nil⟩⟩⟩⟩⟩
theorem zw_324 : Cond.methodLink RX7 88 yX7_seat ∈ wsL_law := zr_8 _ (by decide +kernel)
theorem zw_325 : Cond.instanceMethod yX7_seat ∈ wsL_law := zr_8 _ (by decide +kernel)
theorem zw_326 : Cond.selects RX7 yX7_seat yX7_seat ∈ wsL_law := zr_8 _ (by decide +kernel)
theorem zw_327 : Cond.code yX7_seat cX7_seat 2 (some (.object "WellGivesOther$Asker")) ∈ wsL_law := zr_8 _ (by decide +kernel)
theorem hk_X7_88 : ∀ w ∈ ([Cond.methodLink RX7 88 yX7_seat, Cond.instanceMethod yX7_seat, Cond.selects RX7 yX7_seat yX7_seat, Cond.initialized RX7, Cond.code yX7_seat cX7_seat 2 (some (.object "WellGivesOther$Asker"))] : List Cond), w ∈ wsL_law := List.forall_mem_cons.mpr ⟨zw_324, List.forall_mem_cons.mpr ⟨zw_325, List.forall_mem_cons.mpr ⟨zw_326, List.forall_mem_cons.mpr ⟨zw_322, List.forall_mem_cons.mpr ⟨zw_327, fun _ h => absurd h List.not_mem_nil⟩⟩⟩⟩⟩
theorem hd_X6_begin : yX6_begin.cls = RX6 ∧ yX6_begin.cls ≠ "java/lang/invoke/MethodHandle" ∧ yX6_begin.cls ≠ "java/lang/invoke/VarHandle" ∧ (parseMethodDescriptor yX6_begin.desc).map (fun d => d.parameters.length) = some 4 := by decide +kernel
theorem hd_X7_seat : yX7_seat.cls = RX7 ∧ yX7_seat.cls ≠ "java/lang/invoke/MethodHandle" ∧ yX7_seat.cls ≠ "java/lang/invoke/VarHandle" ∧ (parseMethodDescriptor yX7_seat.desc).map (fun d => d.parameters.length) = some 1 := by decide +kernel
theorem hd_X7_textAt : yX7_textAt.cls = RX7 ∧ yX7_textAt.cls ≠ "java/lang/invoke/MethodHandle" ∧ yX7_textAt.cls ≠ "java/lang/invoke/VarHandle" ∧ (parseMethodDescriptor yX7_textAt.desc).map (fun d => d.parameters.length) = some 1 := by decide +kernel
theorem zw_328 : Cond.fieldLink RX7 137 "WellGivesOther" "rule" "I" ∈ wsL_law := zr_21 _ (by decide +kernel)
theorem hf_X7_137 : Cond.fieldLink RX7 137 "WellGivesOther" "rule" "I" ∈ wsL_law := zw_328
theorem zw_329 : Cond.fieldLink RX7 223 "WellGivesOther$Asker" "had" "I" ∈ wsL_law := zr_21 _ (by decide +kernel)
theorem hf_X7_223 : Cond.fieldLink RX7 223 "WellGivesOther$Asker" "had" "I" ∈ wsL_law := zw_329
theorem zw_330 : Cond.fieldLink RX7 42 "WellGivesOther" "thought" "LWellGivesOther$Visit;" ∈ wsL_law := zr_2 _ (by decide +kernel)
theorem hf_X7_42 : Cond.fieldLink RX7 42 "WellGivesOther" "thought" "LWellGivesOther$Visit;" ∈ wsL_law := zw_330
theorem zw_331 : Cond.fieldLink RX7 85 "WellGivesOther" "today" "I" ∈ wsL_law := zr_8 _ (by decide +kernel)
theorem hf_X7_85 : Cond.fieldLink RX7 85 "WellGivesOther" "today" "I" ∈ wsL_law := zw_331
abbrev rmX7_visitOf : Room := { frames := 2, cells := 0, slots := 0, locals := 64 }
def fX7_visitOf_j60 (this : Nat) (y2 : Option Nat) (s0 : Int32) (st : zS) : Option (Option Nat × zS) :=
  (zok spX st (some this) 7).bind fun o1 => (zok spX st (some this) 7).bind fun o2 => (zok spX st (some this) 7).bind fun o3 => (zok spX st (some this) 7).bind fun o8 => (fX7_textAt o8 (st.2.1 o3 12) st).bind fun q4 => (zok spX q4.2 (st.2.2.2 o1 6) 6).bind fun o7 => (fX6_begin o7 y2 s0 (st.2.1 o2 9) q4.1 q4.2).bind fun q5 => (zok spX q5.2 (some this) 7).bind fun o6 => some ((q5.2.2.2.2 o6 6), q5.2)
def fX7_visitOf_j44 (this : Nat) (y2 : Option Nat) (s0 : Option Nat) (st : zS) : Option (Option Nat × zS) :=
  if s0 = none then (fX7_visitOf_j60 this y2 (0 : Int32) st) else ((zok spX st s0 0).bind fun o9 => fX7_visitOf_j60 this y2 (st.2.1 o9 3) st)
def fX7_visitOf_j29 (this : Nat) (y1 : Int32) (y2 : Option Nat) (s0 : Int32) (st : zS) : Option (Option Nat × zS) :=
  if s0 = y1 then (fX7_visitOf_j44 this y2 none st) else ((zok spX st (some this) 7).bind fun o11 => (fX7_seat o11 s0 st).bind fun q10 => fX7_visitOf_j44 this y2 q10.1 q10.2)
def fX7_visitOf (this : Nat) (a1 : Int32) (st : zS) : Option (Option Nat × zS) :=
  (zok spX st (some this) 7).bind fun o14 => (fX7_seat o14 a1 st).bind fun q12 => if q12.1 = none then (some (none, q12.2)) else ((zok spX q12.2 (some this) 7).bind fun o13 => if (q12.2.2.1 o13 10) ≤ (a1 + (1 : Int32)) then (fX7_visitOf_j29 this a1 q12.1 (0 : Int32) q12.2) else (fX7_visitOf_j29 this a1 q12.1 (a1 + (1 : Int32)) q12.2))
set_option maxRecDepth 100000 in
set_option maxHeartbeats 4000000 in
theorem kX7_visitOf (l : Launch) (Z : zZ) (b : Nat) (x : Option Nat) (this : Nat) (a1 : Int32) (st : zS) : zC l Z spX b x yX7_visitOf (.code yX7_visitOf cX7_visitOf 6 (some (.object "WellGivesOther$Visit"))) (rmX7_visitOf) rP [vP (some this), vI a1] st (fX7_visitOf this a1 st) := by
  refine z_start (own := RX7) rfl (by decide +kernel) (Nat.le_of_ble_eq_true rfl) rfl (fun p e s m args below meth c res Q A X hK hr hlocks hQ => ?_)
  have J60 : ∀ (y2 : Option Nat) (s0 : Int32) (st : zS), zs p l e (rmX7_visitOf) s m args below meth c Q Z spX b x A 6 0 0 res (fX7_visitOf_j60 this y2 s0 st) 60 [(0, vP (some this)), (2, vP y2)] [vI s0] st := by
    intro y2 s0 st
    rw [fX7_visitOf_j60]
    refine z_istore X dX7_visitOf_60 (Nat.le_of_ble_eq_true rfl) rfl ?_
    refine z_aload_n X (q := 1) dX7_visitOf_62 rfl rfl ?_
    refine z_getr X hK (N := 14) (ci := 7) (k := 6) rfl (by decide) inlX7 (by decide) hf_X7_42 rfl spX_X7 rfl dX7_visitOf_63 (fun o1 _ => ?_)
    refine z_aload_n X (q := 2) dX7_visitOf_66 rfl rfl ?_
    refine z_iload X (q := 0) dX7_visitOf_67 rfl ?_
    refine z_aload_n X (q := 1) dX7_visitOf_69 rfl rfl ?_
    refine z_geti X hK (N := 14) (ci := 7) (k := 9) rfl (by decide) inlX7 (by decide) hf_X7_85 rfl spX_X7 rfl dX7_visitOf_70 (fun o2 _ => ?_)
    refine z_aload_n X (q := 1) dX7_visitOf_73 rfl rfl ?_
    refine z_aload_n X (q := 1) dX7_visitOf_74 rfl rfl ?_
    refine z_geti X hK (N := 14) (ci := 7) (k := 12) rfl (by decide) inlX7 (by decide) hf_X7_137 rfl spX_X7 rfl dX7_visitOf_75 (fun o3 _ => ?_)
    refine z_callV X hK (As := [vI (st.2.1 o3 12)]) (ci := 7) rfl (by decide) (fun o => (kX7_textAt l Z  b x o _ _)) hk_X7_67 ⟨rfl, rfl⟩ hd_X7_textAt ⟨Nat.le_of_ble_eq_true rfl, Nat.le_of_ble_eq_true rfl⟩ ⟨Nat.le_of_ble_eq_true rfl, Nat.le_of_ble_eq_true rfl⟩ rfl rfl (Nat.le_of_ble_eq_true rfl) dX7_visitOf_78 (fun _ q4 _ => ?_)
    refine z_callV X hK (As := [vP y2, vI s0, vI (st.2.1 o2 9), vP q4.1]) (ci := 6) rfl (by decide) (fun o => (kX6_begin l Z  b x o _ _ _ _ _)) hk_X7_309 ⟨rfl, rfl⟩ hd_X6_begin ⟨Nat.le_of_ble_eq_true rfl, Nat.le_of_ble_eq_true rfl⟩ ⟨Nat.le_of_ble_eq_true rfl, Nat.le_of_ble_eq_true rfl⟩ rfl rfl (Nat.le_of_ble_eq_true rfl) dX7_visitOf_81 (fun _ q5 _ => ?_)
    refine z_aload_n X (q := 1) dX7_visitOf_84 rfl rfl ?_
    refine z_getr X hK (N := 14) (ci := 7) (k := 6) rfl (by decide) inlX7 (by decide) hf_X7_42 rfl spX_X7 rfl dX7_visitOf_85 (fun o6 _ => ?_)
    subst hQ; exact z_aret X hlocks hr dX7_visitOf_88
  have J44 : ∀ (y2 : Option Nat) (s0 : Option Nat) (st : zS), zs p l e (rmX7_visitOf) s m args below meth c Q Z spX b x A 6 0 0 res (fX7_visitOf_j44 this y2 s0 st) 44 [(0, vP (some this)), (2, vP y2)] [vP s0] st := by
    intro y2 s0 st
    rw [fX7_visitOf_j44]
    refine z_astore X dX7_visitOf_44 (Nat.le_of_ble_eq_true rfl) rfl ?_
    refine z_aload X (q := 0) dX7_visitOf_46 rfl ?_
    refine z_ifnonnull X (tgt := 55) dX7_visitOf_48 (by decide) (fun _ => ?_) (fun _ => ?_)
    · refine z_aload X (q := 0) dX7_visitOf_55 rfl ?_
      refine z_geti X hK (N := 5) (ci := 0) (k := 3) rfl (by decide) inlX0 (by decide) hf_X7_223 rfl spX_X0 rfl dX7_visitOf_57 (fun o9 _ => ?_)
      exact z_sub [1, 2] (J60 _ _ _) rfl
    · refine z_iconst X (v := (0 : Int32)) dX7_visitOf_51 (by decide) ?_
      refine z_goto X (tgt := 60) dX7_visitOf_52 (by decide) ?_
      exact z_sub [1, 2] (J60 _ _ _) rfl
  have J29 : ∀ (y1 : Int32) (y2 : Option Nat) (s0 : Int32) (st : zS), zs p l e (rmX7_visitOf) s m args below meth c Q Z spX b x A 6 0 0 res (fX7_visitOf_j29 this y1 y2 s0 st) 29 [(0, vP (some this)), (1, vI y1), (2, vP y2)] [vI s0] st := by
    intro y1 y2 s0 st
    rw [fX7_visitOf_j29]
    refine z_istore_n X dX7_visitOf_29 rfl (Nat.le_of_ble_eq_true rfl) rfl ?_
    refine z_iload_n X (q := 0) dX7_visitOf_30 rfl rfl ?_
    refine z_iload_n X (q := 2) dX7_visitOf_31 rfl rfl ?_
    refine z_icmp_ne X (tgt := 39) dX7_visitOf_32 (by decide) (fun _ => ?_) (fun _ => ?_)
    · refine z_aload_n X (q := 1) dX7_visitOf_39 rfl rfl ?_
      refine z_iload_n X (q := 0) dX7_visitOf_40 rfl rfl ?_
      refine z_callV X hK (As := [vI s0]) (ci := 7) rfl (by decide) (fun o => (kX7_seat l Z  b x o _ _)) hk_X7_88 ⟨rfl, rfl⟩ hd_X7_seat ⟨Nat.le_of_ble_eq_true rfl, Nat.le_of_ble_eq_true rfl⟩ ⟨Nat.le_of_ble_eq_true rfl, Nat.le_of_ble_eq_true rfl⟩ rfl rfl (Nat.le_of_ble_eq_true rfl) dX7_visitOf_41 (fun _ q10 _ => ?_)
      exact z_sub [1, 3] (J44 _ _ _) rfl
    · refine z_null X dX7_visitOf_35 ?_
      refine z_goto X (tgt := 44) dX7_visitOf_36 (by decide) ?_
      exact z_sub [1, 3] (J44 _ _ _) rfl
  rw [fX7_visitOf]
  refine z_aload_n X (q := 0) dX7_visitOf_0 rfl rfl ?_
  refine z_iload_n X (q := 1) dX7_visitOf_1 rfl rfl ?_
  refine z_callV X hK (As := [vI a1]) (ci := 7) rfl (by decide) (fun o => (kX7_seat l Z  b x o _ _)) hk_X7_88 ⟨rfl, rfl⟩ hd_X7_seat ⟨Nat.le_of_ble_eq_true rfl, Nat.le_of_ble_eq_true rfl⟩ ⟨Nat.le_of_ble_eq_true rfl, Nat.le_of_ble_eq_true rfl⟩ rfl rfl (Nat.le_of_ble_eq_true rfl) dX7_visitOf_2 (fun _ q12 _ => ?_)
  refine z_astore_n X dX7_visitOf_5 rfl (Nat.le_of_ble_eq_true rfl) rfl ?_
  refine z_aload_n X (q := 0) dX7_visitOf_6 rfl rfl ?_
  refine z_ifnonnull X (tgt := 12) dX7_visitOf_7 (by decide) (fun _ => ?_) (fun _ => ?_)
  · refine z_iload_n X (q := 2) dX7_visitOf_12 rfl rfl ?_
    refine z_iconst X (v := (1 : Int32)) dX7_visitOf_13 (by decide) ?_
    refine z_iadd X dX7_visitOf_14 ?_
    refine z_aload_n X (q := 1) dX7_visitOf_15 rfl rfl ?_
    refine z_geti X hK (N := 14) (ci := 7) (k := 10) rfl (by decide) inlX7 (by decide) hf_X7_99 rfl spX_X7 rfl dX7_visitOf_16 (fun o13 _ => ?_)
    refine z_icmp_ge X (tgt := 28) dX7_visitOf_19 (by decide) (fun _ => ?_) (fun _ => ?_)
    · refine z_iconst X (v := (0 : Int32)) dX7_visitOf_28 (by decide) ?_
      exact z_sub [1, 2, 0] (J29 _ _ _ _) rfl
    · refine z_iload_n X (q := 2) dX7_visitOf_22 rfl rfl ?_
      refine z_iconst X (v := (1 : Int32)) dX7_visitOf_23 (by decide) ?_
      refine z_iadd X dX7_visitOf_24 ?_
      refine z_goto X (tgt := 29) dX7_visitOf_25 (by decide) ?_
      exact z_sub [1, 2, 0] (J29 _ _ _ _) rfl
  · refine z_null X dX7_visitOf_10 ?_
    subst hQ; exact z_aret X hlocks hr dX7_visitOf_11
theorem zw_332 : Cond.methodLink RX7 108 yX7_visitOf ∈ wsL_law := zr_20 _ (by decide +kernel)
theorem zw_333 : Cond.instanceMethod yX7_visitOf ∈ wsL_law := zr_20 _ (by decide +kernel)
theorem zw_334 : Cond.selects RX7 yX7_visitOf yX7_visitOf ∈ wsL_law := zr_20 _ (by decide +kernel)
theorem zw_335 : Cond.code yX7_visitOf cX7_visitOf 6 (some (.object "WellGivesOther$Visit")) ∈ wsL_law := zr_21 _ (by decide +kernel)
theorem hk_X7_108 : ∀ w ∈ ([Cond.methodLink RX7 108 yX7_visitOf, Cond.instanceMethod yX7_visitOf, Cond.selects RX7 yX7_visitOf yX7_visitOf, Cond.initialized RX7, Cond.code yX7_visitOf cX7_visitOf 6 (some (.object "WellGivesOther$Visit"))] : List Cond), w ∈ wsL_law := List.forall_mem_cons.mpr ⟨zw_332, List.forall_mem_cons.mpr ⟨zw_333, List.forall_mem_cons.mpr ⟨zw_334, List.forall_mem_cons.mpr ⟨zw_322, List.forall_mem_cons.mpr ⟨zw_335, fun _ h => absurd h List.not_mem_nil⟩⟩⟩⟩⟩
theorem zw_336 : Cond.methodLink RX7 112 yX7_isAsked ∈ wsL_law := zr_25 _ (by decide +kernel)
theorem zw_337 : Cond.static yX7_isAsked ∈ wsL_law := zr_25 _ (by decide +kernel)
theorem zw_338 : Cond.code yX7_isAsked cX7_isAsked 1 (some .boolean) ∈ wsL_law := zr_25 _ (by decide +kernel)
theorem hk_X7_112 : ∀ w ∈ ([Cond.methodLink RX7 112 yX7_isAsked, Cond.static yX7_isAsked, Cond.initialized RX7, Cond.code yX7_isAsked cX7_isAsked 1 (some .boolean)] : List Cond), w ∈ wsL_law := List.forall_mem_cons.mpr ⟨zw_336, List.forall_mem_cons.mpr ⟨zw_337, List.forall_mem_cons.mpr ⟨zw_322, List.forall_mem_cons.mpr ⟨zw_338, fun _ h => absurd h List.not_mem_nil⟩⟩⟩⟩
theorem zw_339 : Cond.methodLink RX7 140 yX6_askFor ∈ wsL_law := zr_35 _ (by decide +kernel)
theorem zw_340 : Cond.instanceMethod yX6_askFor ∈ wsL_law := zr_35 _ (by decide +kernel)
theorem zw_341 : Cond.selects RX6 yX6_askFor yX6_askFor ∈ wsL_law := zr_35 _ (by decide +kernel)
theorem zw_342 : Cond.code yX6_askFor cX6_askFor 5 (some .int) ∈ wsL_law := zr_35 _ (by decide +kernel)
theorem hk_X7_140 : ∀ w ∈ ([Cond.methodLink RX7 140 yX6_askFor, Cond.instanceMethod yX6_askFor, Cond.selects RX6 yX6_askFor yX6_askFor, Cond.initialized RX6, Cond.code yX6_askFor cX6_askFor 5 (some .int)] : List Cond), w ∈ wsL_law := List.forall_mem_cons.mpr ⟨zw_339, List.forall_mem_cons.mpr ⟨zw_340, List.forall_mem_cons.mpr ⟨zw_341, List.forall_mem_cons.mpr ⟨zw_137, List.forall_mem_cons.mpr ⟨zw_342, fun _ h => absurd h List.not_mem_nil⟩⟩⟩⟩⟩
theorem zw_343 : Cond.methodLink RX7 143 yX6_leaveTo ∈ wsL_law := zr_35 _ (by decide +kernel)
theorem zw_344 : Cond.instanceMethod yX6_leaveTo ∈ wsL_law := zr_35 _ (by decide +kernel)
theorem zw_345 : Cond.selects RX6 yX6_leaveTo yX6_leaveTo ∈ wsL_law := zr_35 _ (by decide +kernel)
theorem zw_346 : Cond.code yX6_leaveTo cX6_leaveTo 2 none ∈ wsL_law := zr_35 _ (by decide +kernel)
theorem hk_X7_143 : ∀ w ∈ ([Cond.methodLink RX7 143 yX6_leaveTo, Cond.instanceMethod yX6_leaveTo, Cond.selects RX6 yX6_leaveTo yX6_leaveTo, Cond.initialized RX6, Cond.code yX6_leaveTo cX6_leaveTo 2 none] : List Cond), w ∈ wsL_law := List.forall_mem_cons.mpr ⟨zw_343, List.forall_mem_cons.mpr ⟨zw_344, List.forall_mem_cons.mpr ⟨zw_345, List.forall_mem_cons.mpr ⟨zw_137, List.forall_mem_cons.mpr ⟨zw_346, fun _ h => absurd h List.not_mem_nil⟩⟩⟩⟩⟩
theorem hd_X6_askFor : yX6_askFor.cls = RX6 ∧ yX6_askFor.cls ≠ "java/lang/invoke/MethodHandle" ∧ yX6_askFor.cls ≠ "java/lang/invoke/VarHandle" ∧ (parseMethodDescriptor yX6_askFor.desc).map (fun d => d.parameters.length) = some 1 := by decide +kernel
theorem hd_X6_leaveTo : yX6_leaveTo.cls = RX6 ∧ yX6_leaveTo.cls ≠ "java/lang/invoke/MethodHandle" ∧ yX6_leaveTo.cls ≠ "java/lang/invoke/VarHandle" ∧ (parseMethodDescriptor yX6_leaveTo.desc).map (fun d => d.parameters.length) = some 1 := by decide +kernel
theorem hd_X7_isAsked : yX7_isAsked.cls = RX7 ∧ yX7_isAsked.cls ≠ "java/lang/invoke/MethodHandle" ∧ yX7_isAsked.cls ≠ "java/lang/invoke/VarHandle" ∧ (parseMethodDescriptor yX7_isAsked.desc).map (fun d => d.parameters.length) = some 1 := by decide +kernel
theorem hd_X7_visitOf : yX7_visitOf.cls = RX7 ∧ yX7_visitOf.cls ≠ "java/lang/invoke/MethodHandle" ∧ yX7_visitOf.cls ≠ "java/lang/invoke/VarHandle" ∧ (parseMethodDescriptor yX7_visitOf.desc).map (fun d => d.parameters.length) = some 1 := by decide +kernel
abbrev rmX7_ask : Room := { frames := 6, cells := 0, slots := 0, locals := 160 }
def fX7_ask (this : Nat) (a1 : Int32) (a2 : Int32) (st : zS) : Option (Int32 × zS) :=
  (zok spX st (some this) 7).bind fun o10 => (fX7_visitOf o10 a1 st).bind fun q1 => (zok spX q1.2 (some this) 7).bind fun o9 => (fX7_seat o9 a1 q1.2).bind fun q2 => if q1.1 = none then (some ((-2 : Int32), q2.2)) else (if q2.1 = none then (some ((-2 : Int32), q2.2)) else ((fX7_isAsked a2 q2.2).bind fun q3 => if q3.1 = 0 then (some ((-2 : Int32), q3.2)) else ((zok spX q3.2 q1.1 6).bind fun o8 => (fX6_askFor o8 a2 q3.2).bind fun q4 => zlet (q4.1) fun v5 => (zok spX q4.2 q1.1 6).bind fun o7 => (fX6_leaveTo o7 q2.1 q4.2).bind fun q6 => some (v5, q6.2))))
set_option maxRecDepth 100000 in
set_option maxHeartbeats 4000000 in
theorem kX7_ask (l : Launch) (Z : zZ) (b : Nat) (x : Option Nat) (this : Nat) (a1 : Int32) (a2 : Int32) (st : zS) : zC l Z spX b x yX7_ask (.code yX7_ask cX7_ask 6 (some .int)) (rmX7_ask) rI [vP (some this), vI a1, vI a2] st (fX7_ask this a1 a2 st) := by
  refine z_start (own := RX7) rfl (by decide +kernel) (Nat.le_of_ble_eq_true rfl) rfl (fun p e s m args below meth c res Q A X hK hr hlocks hQ => ?_)
  rw [fX7_ask]
  refine z_aload_n X (q := 0) dX7_ask_0 rfl rfl ?_
  refine z_iload_n X (q := 1) dX7_ask_1 rfl rfl ?_
  refine z_callV X hK (As := [vI a1]) (ci := 7) rfl (by decide) (fun o => (kX7_visitOf l Z  b x o _ _)) hk_X7_108 ⟨rfl, rfl⟩ hd_X7_visitOf ⟨Nat.le_of_ble_eq_true rfl, Nat.le_of_ble_eq_true rfl⟩ ⟨Nat.le_of_ble_eq_true rfl, Nat.le_of_ble_eq_true rfl⟩ rfl rfl (Nat.le_of_ble_eq_true rfl) dX7_ask_2 (fun _ q1 _ => ?_)
  refine z_astore_n X dX7_ask_5 rfl (Nat.le_of_ble_eq_true rfl) rfl ?_
  refine z_aload_n X (q := 1) dX7_ask_6 rfl rfl ?_
  refine z_iload_n X (q := 2) dX7_ask_7 rfl rfl ?_
  refine z_callV X hK (As := [vI a1]) (ci := 7) rfl (by decide) (fun o => (kX7_seat l Z  b x o _ _)) hk_X7_88 ⟨rfl, rfl⟩ hd_X7_seat ⟨Nat.le_of_ble_eq_true rfl, Nat.le_of_ble_eq_true rfl⟩ ⟨Nat.le_of_ble_eq_true rfl, Nat.le_of_ble_eq_true rfl⟩ rfl rfl (Nat.le_of_ble_eq_true rfl) dX7_ask_8 (fun _ q2 _ => ?_)
  refine z_astore X dX7_ask_11 (Nat.le_of_ble_eq_true rfl) rfl ?_
  refine z_aload_n X (q := 1) dX7_ask_13 rfl rfl ?_
  refine z_ifnull X (tgt := 29) dX7_ask_14 (by decide) (fun _ => ?_) (fun _ => ?_)
  · refine z_bipush X (v := (-2 : Int32)) dX7_ask_29 (by decide) ?_
    subst hQ; exact z_iret X hlocks hr dX7_ask_31
  · refine z_aload X (q := 0) dX7_ask_17 rfl ?_
    refine z_ifnull X (tgt := 29) dX7_ask_19 (by decide) (fun _ => ?_) (fun _ => ?_)
    · refine z_bipush X (v := (-2 : Int32)) dX7_ask_29 (by decide) ?_
      subst hQ; exact z_iret X hlocks hr dX7_ask_31
    · refine z_iload_n X (q := 4) dX7_ask_22 rfl rfl ?_
      refine z_callS X hK (As := [vI a2]) (kX7_isAsked l Z  b x _ _) hk_X7_112 ⟨rfl, rfl⟩ hd_X7_isAsked.2 ⟨Nat.le_of_ble_eq_true rfl, Nat.le_of_ble_eq_true rfl⟩ ⟨Nat.le_of_ble_eq_true rfl, Nat.le_of_ble_eq_true rfl⟩ rfl rfl (Nat.le_of_ble_eq_true rfl) dX7_ask_23 (fun q3 => ?_)
      refine z_if_ne X (tgt := 32) dX7_ask_26 (by decide) (fun _ => ?_) (fun _ => ?_)
      · refine z_aload_n X (q := 1) dX7_ask_32 rfl rfl ?_
        refine z_iload_n X (q := 4) dX7_ask_33 rfl rfl ?_
        refine z_callV X hK (As := [vI a2]) (ci := 6) rfl (by decide) (fun o => (kX6_askFor l Z  b x o _ _)) hk_X7_140 ⟨rfl, rfl⟩ hd_X6_askFor ⟨Nat.le_of_ble_eq_true rfl, Nat.le_of_ble_eq_true rfl⟩ ⟨Nat.le_of_ble_eq_true rfl, Nat.le_of_ble_eq_true rfl⟩ rfl rfl (Nat.le_of_ble_eq_true rfl) dX7_ask_34 (fun _ q4 _ => ?_)
        refine z_name (fun v5 => ?_)
        refine z_istore X dX7_ask_37 (Nat.le_of_ble_eq_true rfl) rfl ?_
        refine z_aload_n X (q := 2) dX7_ask_39 rfl rfl ?_
        refine z_aload X (q := 1) dX7_ask_40 rfl ?_
        refine z_callV X hK (As := [vP q2.1]) (ci := 6) rfl (by decide) (fun o => (kX6_leaveTo l Z  b x o _ _)) hk_X7_143 ⟨rfl, rfl⟩ hd_X6_leaveTo ⟨Nat.le_of_ble_eq_true rfl, Nat.le_of_ble_eq_true rfl⟩ ⟨Nat.le_of_ble_eq_true rfl, Nat.le_of_ble_eq_true rfl⟩ rfl rfl (Nat.le_of_ble_eq_true rfl) dX7_ask_42 (fun _ q6 _ => ?_)
        refine z_iload X (q := 0) dX7_ask_45 rfl ?_
        subst hQ; exact z_iret X hlocks hr dX7_ask_47
      · refine z_bipush X (v := (-2 : Int32)) dX7_ask_29 (by decide) ?_
        subst hQ; exact z_iret X hlocks hr dX7_ask_31
theorem zw_347 : Cond.methodLink RX7 293 yX3_at ∈ wsL_law := zr_37 _ (by decide +kernel)
theorem zw_348 : Cond.instanceMethod yX3_at ∈ wsL_law := zr_37 _ (by decide +kernel)
theorem zw_349 : Cond.selects RX3 yX3_at yX3_at ∈ wsL_law := zr_37 _ (by decide +kernel)
theorem zw_350 : Cond.initialized RX3 ∈ wsL_law := zr_2 _ (by decide +kernel)
theorem zw_351 : Cond.code yX3_at cX3_at 2 (some .int) ∈ wsL_law := zr_37 _ (by decide +kernel)
theorem hk_X7_293 : ∀ w ∈ ([Cond.methodLink RX7 293 yX3_at, Cond.instanceMethod yX3_at, Cond.selects RX3 yX3_at yX3_at, Cond.initialized RX3, Cond.code yX3_at cX3_at 2 (some .int)] : List Cond), w ∈ wsL_law := List.forall_mem_cons.mpr ⟨zw_347, List.forall_mem_cons.mpr ⟨zw_348, List.forall_mem_cons.mpr ⟨zw_349, List.forall_mem_cons.mpr ⟨zw_350, List.forall_mem_cons.mpr ⟨zw_351, fun _ h => absurd h List.not_mem_nil⟩⟩⟩⟩⟩
theorem hd_X3_at : yX3_at.cls = RX3 ∧ yX3_at.cls ≠ "java/lang/invoke/MethodHandle" ∧ yX3_at.cls ≠ "java/lang/invoke/VarHandle" ∧ (parseMethodDescriptor yX3_at.desc).map (fun d => d.parameters.length) = some 1 := by decide +kernel
theorem zw_352 : Cond.fieldLink RX7 228 "WellGivesOther$Sheet" "size" "I" ∈ wsL_law := zr_37 _ (by decide +kernel)
theorem hf_X7_228 : Cond.fieldLink RX7 228 "WellGivesOther$Sheet" "size" "I" ∈ wsL_law := zw_352
abbrev rmX7_askInRow : Room := { frames := 6, cells := 0, slots := 0, locals := 160 }
def fX7_askInRow_L2 : Nat → Option Nat → Option Nat → Int32 → zS → Option (Unit × zS)
  | 0, _, _, _, _ => none
  | n + 1, y0, y1, y2, st => (zok spX st y1 3).bind fun o1 => if (st.2.1 o1 2) ≤ y2 then (some ((), st)) else ((zok spX st y1 3).bind fun o5 => (fX3_at o5 y2 st).bind fun q2 => (zok spX q2.2 y0 6).bind fun o4 => (fX6_askFor o4 q2.1 q2.2).bind fun q3 => (fX7_askInRow_L2 n) y0 y1 (y2 + (1 : Int32)) q3.2)
def fX7_askInRow (a0 : Option Nat) (a1 : Option Nat) (st : zS) : Option (Unit × zS) :=
  fX7_askInRow_L2 zF a0 a1 (0 : Int32) st
set_option maxRecDepth 100000 in
set_option maxHeartbeats 4000000 in
theorem kX7_askInRow (l : Launch) (Z : zZ) (b : Nat) (x : Option Nat) (a0 : Option Nat) (a1 : Option Nat) (st : zS) : zC l Z spX b x yX7_askInRow (.code yX7_askInRow cX7_askInRow 3 none) (rmX7_askInRow) rV [vP a0, vP a1] st (fX7_askInRow a0 a1 st) := by
  refine z_start (own := RX7) rfl (by decide +kernel) (Nat.le_of_ble_eq_true rfl) rfl (fun p e s m args below meth c res Q A X hK hr hlocks hQ => ?_)
  have J2 : ∀ (n2 : Nat) (y0 : Option Nat) (y1 : Option Nat) (y2 : Int32) (st : zS), zs p l e (rmX7_askInRow) s m args below meth c Q Z spX b x A 3 0 0 res (fX7_askInRow_L2 n2 y0 y1 y2 st) 2 [(0, vP y0), (1, vP y1), (2, vI y2)] [] st := by
    intro n2
    induction n2 with
    | zero => intros; exact z_none
    | succ n2 ih2 =>
      intro y0 y1 y2 st
      rw [fX7_askInRow_L2]
      refine z_iload_n X (q := 2) dX7_askInRow_2 rfl rfl ?_
      refine z_aload_n X (q := 1) dX7_askInRow_3 rfl rfl ?_
      refine z_geti X hK (N := 3) (ci := 3) (k := 2) rfl (by decide) inlX3 (by decide) hf_X7_228 rfl spX_X3 rfl dX7_askInRow_4 (fun o1 _ => ?_)
      refine z_icmp_ge X (tgt := 26) dX7_askInRow_7 (by decide) (fun _ => ?_) (fun _ => ?_)
      · subst hQ; exact z_vret X hlocks hr dX7_askInRow_26
      · refine z_aload_n X (q := 0) dX7_askInRow_10 rfl rfl ?_
        refine z_aload_n X (q := 1) dX7_askInRow_11 rfl rfl ?_
        refine z_iload_n X (q := 2) dX7_askInRow_12 rfl rfl ?_
        refine z_callV X hK (As := [vI y2]) (ci := 3) rfl (by decide) (fun o => (kX3_at l Z  b x o _ _)) hk_X7_293 ⟨rfl, rfl⟩ hd_X3_at ⟨Nat.le_of_ble_eq_true rfl, Nat.le_of_ble_eq_true rfl⟩ ⟨Nat.le_of_ble_eq_true rfl, Nat.le_of_ble_eq_true rfl⟩ rfl rfl (Nat.le_of_ble_eq_true rfl) dX7_askInRow_13 (fun _ q2 _ => ?_)
        refine z_callV X hK (As := [vI q2.1]) (ci := 6) rfl (by decide) (fun o => (kX6_askFor l Z  b x o _ _)) hk_X7_140 ⟨rfl, rfl⟩ hd_X6_askFor ⟨Nat.le_of_ble_eq_true rfl, Nat.le_of_ble_eq_true rfl⟩ ⟨Nat.le_of_ble_eq_true rfl, Nat.le_of_ble_eq_true rfl⟩ rfl rfl (Nat.le_of_ble_eq_true rfl) dX7_askInRow_16 (fun _ q3 _ => ?_)
        refine z_pop X dX7_askInRow_19 rfl ?_
        refine z_iinc X (q := 2) (y := y2 + (1 : Int32)) dX7_askInRow_20 rfl rfl (Nat.le_of_ble_eq_true rfl) rfl ?_
        refine z_goto X (tgt := 2) dX7_askInRow_23 (by decide) ?_
        exact z_sub [1, 2, 0] (ih2 _ _ _ _) rfl
  rw [fX7_askInRow]
  refine z_iconst X (v := (0 : Int32)) dX7_askInRow_0 (by decide) ?_
  refine z_istore_n X dX7_askInRow_1 rfl (Nat.le_of_ble_eq_true rfl) rfl ?_
  exact z_sub [1, 2, 0] (J2 _ _ _ _ _) rfl
theorem zw_353 : Cond.methodLink RX7 102 yX0_come ∈ wsL_law := zr_20 _ (by decide +kernel)
theorem zw_354 : Cond.instanceMethod yX0_come ∈ wsL_law := zr_20 _ (by decide +kernel)
theorem zw_355 : Cond.selects RX0 yX0_come yX0_come ∈ wsL_law := zr_20 _ (by decide +kernel)
theorem zw_356 : Cond.code yX0_come cX0_come 3 none ∈ wsL_law := zr_20 _ (by decide +kernel)
theorem hk_X7_102 : ∀ w ∈ ([Cond.methodLink RX7 102 yX0_come, Cond.instanceMethod yX0_come, Cond.selects RX0 yX0_come yX0_come, Cond.initialized RX0, Cond.code yX0_come cX0_come 3 none] : List Cond), w ∈ wsL_law := List.forall_mem_cons.mpr ⟨zw_353, List.forall_mem_cons.mpr ⟨zw_354, List.forall_mem_cons.mpr ⟨zw_355, List.forall_mem_cons.mpr ⟨zw_224, List.forall_mem_cons.mpr ⟨zw_356, fun _ h => absurd h List.not_mem_nil⟩⟩⟩⟩⟩
theorem hd_X0_come : yX0_come.cls = RX0 ∧ yX0_come.cls ≠ "java/lang/invoke/MethodHandle" ∧ yX0_come.cls ≠ "java/lang/invoke/VarHandle" ∧ (parseMethodDescriptor yX0_come.desc).map (fun d => d.parameters.length) = some 2 := by decide +kernel
abbrev rmX7_asker : Room := { frames := 2, cells := 0, slots := 0, locals := 62 }
def fX7_asker (this : Nat) (a1 : Int32) (a2 : Int32) (st : zS) : Option (Int32 × zS) :=
  if a1 < 0 then (some ((-2 : Int32), st)) else (if (6 : Int32) ≤ a1 then (some ((-2 : Int32), st)) else (if a2 < 0 then (some ((-2 : Int32), st)) else (if a2 ≤ (9 : Int32) then ((zok spX st (some this) 7).bind fun o1 => if (st.2.1 o1 10) < 0 then (some ((-4 : Int32), st)) else ((zok spX st (some this) 7).bind fun o2 => (zok spX st (some this) 7).bind fun o3 => (zla spX st (st.2.2.2 o3 3)).bind fun o4 => if (st.2.1 o2 10) < (Int32.ofNat (spX o4).2) then ((zok spX st (some this) 7).bind fun o5 => (zok spX st (some this) 7).bind fun o6 => (zok spX st (st.2.2.2 o5 3) 11).bind fun o7 => (zix spX o7 (st.2.1 o6 10)).bind fun j8 => if (st.2.2.2 o7 j8) = none then (some ((-4 : Int32), st)) else ((zok spX st (st.2.2.2 o7 j8) 0).bind fun o14 => (fX0_come o14 a1 a2 st).bind fun q9 => (zok spX q9.2 (some this) 7).bind fun o10 => (zok spX q9.2 (some this) 7).bind fun o11 => zlet (zp q9.2 o11 10 ((q9.2.2.1 o10 10) + (1 : Int32))) fun st12 => (zok spX st12 (some this) 7).bind fun o13 => some (((st12.2.1 o13 10) - (1 : Int32)), st12))) else (some ((-4 : Int32), st)))) else (some ((-2 : Int32), st)))))
set_option maxRecDepth 100000 in
set_option maxHeartbeats 4000000 in
theorem kX7_asker (l : Launch) (Z : zZ) (b : Nat) (x : Option Nat) (this : Nat) (a1 : Int32) (a2 : Int32) (st : zS) : zC l Z spX b x yX7_asker (.code yX7_asker cX7_asker 4 (some .int)) (rmX7_asker) rI [vP (some this), vI a1, vI a2] st (fX7_asker this a1 a2 st) := by
  refine z_start (own := RX7) rfl (by decide +kernel) (Nat.le_of_ble_eq_true rfl) rfl (fun p e s m args below meth c res Q A X hK hr hlocks hQ => ?_)
  rw [fX7_asker]
  refine z_iload_n X (q := 1) dX7_asker_0 rfl rfl ?_
  refine z_if_lt X (tgt := 20) dX7_asker_1 (by decide) (fun _ => ?_) (fun _ => ?_)
  · refine z_bipush X (v := (-2 : Int32)) dX7_asker_20 (by decide) ?_
    subst hQ; exact z_iret X hlocks hr dX7_asker_22
  · refine z_iload_n X (q := 1) dX7_asker_4 rfl rfl ?_
    refine z_bipush X (v := (6 : Int32)) dX7_asker_5 (by decide) ?_
    refine z_icmp_ge X (tgt := 20) dX7_asker_7 (by decide) (fun _ => ?_) (fun _ => ?_)
    · refine z_bipush X (v := (-2 : Int32)) dX7_asker_20 (by decide) ?_
      subst hQ; exact z_iret X hlocks hr dX7_asker_22
    · refine z_iload_n X (q := 2) dX7_asker_10 rfl rfl ?_
      refine z_if_lt X (tgt := 20) dX7_asker_11 (by decide) (fun _ => ?_) (fun _ => ?_)
      · refine z_bipush X (v := (-2 : Int32)) dX7_asker_20 (by decide) ?_
        subst hQ; exact z_iret X hlocks hr dX7_asker_22
      · refine z_iload_n X (q := 2) dX7_asker_14 rfl rfl ?_
        refine z_bipush X (v := (9 : Int32)) dX7_asker_15 (by decide) ?_
        refine z_icmp_le X (tgt := 23) dX7_asker_17 (by decide) (fun _ => ?_) (fun _ => ?_)
        · refine z_aload_n X (q := 0) dX7_asker_23 rfl rfl ?_
          refine z_geti X hK (N := 14) (ci := 7) (k := 10) rfl (by decide) inlX7 (by decide) hf_X7_99 rfl spX_X7 rfl dX7_asker_24 (fun o1 _ => ?_)
          refine z_if_lt X (tgt := 42) dX7_asker_27 (by decide) (fun _ => ?_) (fun _ => ?_)
          · refine z_bipush X (v := (-4 : Int32)) dX7_asker_42 (by decide) ?_
            subst hQ; exact z_iret X hlocks hr dX7_asker_44
          · refine z_aload_n X (q := 0) dX7_asker_30 rfl rfl ?_
            refine z_geti X hK (N := 14) (ci := 7) (k := 10) rfl (by decide) inlX7 (by decide) hf_X7_99 rfl spX_X7 rfl dX7_asker_31 (fun o2 _ => ?_)
            refine z_aload_n X (q := 0) dX7_asker_34 rfl rfl ?_
            refine z_getr X hK (N := 14) (ci := 7) (k := 3) rfl (by decide) inlX7 (by decide) hf_X7_21 rfl spX_X7 rfl dX7_asker_35 (fun o3 _ => ?_)
            refine z_alen X hK dX7_asker_38 spX_14 (fun o4 _ => ?_)
            refine z_icmp_lt X (tgt := 45) dX7_asker_39 (by decide) (fun _ => ?_) (fun _ => ?_)
            · refine z_aload_n X (q := 0) dX7_asker_45 rfl rfl ?_
              refine z_getr X hK (N := 14) (ci := 7) (k := 3) rfl (by decide) inlX7 (by decide) hf_X7_21 rfl spX_X7 rfl dX7_asker_46 (fun o5 _ => ?_)
              refine z_aload_n X (q := 0) dX7_asker_49 rfl rfl ?_
              refine z_geti X hK (N := 14) (ci := 7) (k := 10) rfl (by decide) inlX7 (by decide) hf_X7_99 rfl spX_X7 rfl dX7_asker_50 (fun o6 _ => ?_)
              refine z_aald11 X hK dX7_asker_53 (fun o7 j8 _ _ => ?_)
              refine z_astore_n X dX7_asker_54 rfl (Nat.le_of_ble_eq_true rfl) rfl ?_
              refine z_aload_n X (q := 0) dX7_asker_55 rfl rfl ?_
              refine z_ifnonnull X (tgt := 62) dX7_asker_56 (by decide) (fun _ => ?_) (fun _ => ?_)
              · refine z_aload_n X (q := 0) dX7_asker_62 rfl rfl ?_
                refine z_iload_n X (q := 2) dX7_asker_63 rfl rfl ?_
                refine z_iload_n X (q := 3) dX7_asker_64 rfl rfl ?_
                refine z_callV X hK (As := [vI a1, vI a2]) (ci := 0) rfl (by decide) (fun o => (kX0_come l Z  b x o _ _ _)) hk_X7_102 ⟨rfl, rfl⟩ hd_X0_come ⟨Nat.le_of_ble_eq_true rfl, Nat.le_of_ble_eq_true rfl⟩ ⟨Nat.le_of_ble_eq_true rfl, Nat.le_of_ble_eq_true rfl⟩ rfl rfl (Nat.le_of_ble_eq_true rfl) dX7_asker_65 (fun _ q9 _ => ?_)
                refine z_aload_n X (q := 1) dX7_asker_68 rfl rfl ?_
                refine z_dup X dX7_asker_69 rfl ?_
                refine z_geti X hK (N := 14) (ci := 7) (k := 10) rfl (by decide) inlX7 (by decide) hf_X7_99 rfl spX_X7 rfl dX7_asker_70 (fun o10 _ => ?_)
                refine z_iconst X (v := (1 : Int32)) dX7_asker_73 (by decide) ?_
                refine z_iadd X dX7_asker_74 ?_
                refine z_puti X hK (N := 14) (ci := 7) (k := 10) rfl (by decide) inlX7 tyX7 tyX7_ok nmX7 (by decide) hf_X7_99 rfl rfl spX_X7 rfl (by decide +kernel) dX7_asker_75 (fun o11 st12 _ => ?_)
                refine z_aload_n X (q := 1) dX7_asker_78 rfl rfl ?_
                refine z_geti X hK (N := 14) (ci := 7) (k := 10) rfl (by decide) inlX7 (by decide) hf_X7_99 rfl spX_X7 rfl dX7_asker_79 (fun o13 _ => ?_)
                refine z_iconst X (v := (1 : Int32)) dX7_asker_82 (by decide) ?_
                refine z_isub X dX7_asker_83 ?_
                subst hQ; exact z_iret X hlocks hr dX7_asker_84
              · refine z_bipush X (v := (-4 : Int32)) dX7_asker_59 (by decide) ?_
                subst hQ; exact z_iret X hlocks hr dX7_asker_61
            · refine z_bipush X (v := (-4 : Int32)) dX7_asker_42 (by decide) ?_
              subst hQ; exact z_iret X hlocks hr dX7_asker_44
        · refine z_bipush X (v := (-2 : Int32)) dX7_asker_20 (by decide) ?_
          subst hQ; exact z_iret X hlocks hr dX7_asker_22
theorem zw_357 : Cond.fieldLink RX7 33 "WellGivesOther" "sheets" "[LWellGivesOther$Sheet;" ∈ wsL_law := zr_1 _ (by decide +kernel)
theorem hf_X7_33 : Cond.fieldLink RX7 33 "WellGivesOther" "sheets" "[LWellGivesOther$Sheet;" ∈ wsL_law := zw_357
abbrev rmX7_sheetAt : Room := { frames := 1, cells := 0, slots := 0, locals := 40 }
def fX7_sheetAt_j22 (this : Nat) (st : zS) : Option (Option Nat × zS) :=
  some (none, st)
def fX7_sheetAt (this : Nat) (a1 : Int32) (st : zS) : Option (Option Nat × zS) :=
  if a1 < 0 then (fX7_sheetAt_j22 this st) else ((zok spX st (some this) 7).bind fun o1 => (zla spX st (st.2.2.2 o1 5)).bind fun o2 => if (Int32.ofNat (spX o2).2) ≤ a1 then (fX7_sheetAt_j22 this st) else ((zok spX st (some this) 7).bind fun o3 => (zok spX st (st.2.2.2 o3 5) 12).bind fun o4 => (zix spX o4 a1).bind fun j5 => some ((st.2.2.2 o4 j5), st)))
set_option maxRecDepth 100000 in
set_option maxHeartbeats 4000000 in
theorem kX7_sheetAt (l : Launch) (Z : zZ) (b : Nat) (x : Option Nat) (this : Nat) (a1 : Int32) (st : zS) : zC l Z spX b x yX7_sheetAt (.code yX7_sheetAt cX7_sheetAt 2 (some (.object "WellGivesOther$Sheet"))) (rmX7_sheetAt) rP [vP (some this), vI a1] st (fX7_sheetAt this a1 st) := by
  refine z_start (own := RX7) rfl (by decide +kernel) (Nat.le_of_ble_eq_true rfl) rfl (fun p e s m args below meth c res Q A X hK hr hlocks hQ => ?_)
  have J22 : ∀ (st : zS), zs p l e (rmX7_sheetAt) s m args below meth c Q Z spX b x A 2 0 0 res (fX7_sheetAt_j22 this st) 22 [] [] st := by
    intro  st
    rw [fX7_sheetAt_j22]
    refine z_null X dX7_sheetAt_22 ?_
    subst hQ; exact z_aret X hlocks hr dX7_sheetAt_23
  rw [fX7_sheetAt]
  refine z_iload_n X (q := 1) dX7_sheetAt_0 rfl rfl ?_
  refine z_if_lt X (tgt := 22) dX7_sheetAt_1 (by decide) (fun _ => ?_) (fun _ => ?_)
  · exact z_sub [] (J22  _) rfl
  · refine z_iload_n X (q := 1) dX7_sheetAt_4 rfl rfl ?_
    refine z_aload_n X (q := 0) dX7_sheetAt_5 rfl rfl ?_
    refine z_getr X hK (N := 14) (ci := 7) (k := 5) rfl (by decide) inlX7 (by decide) hf_X7_33 rfl spX_X7 rfl dX7_sheetAt_6 (fun o1 _ => ?_)
    refine z_alen X hK dX7_sheetAt_9 spX_14 (fun o2 _ => ?_)
    refine z_icmp_ge X (tgt := 22) dX7_sheetAt_10 (by decide) (fun _ => ?_) (fun _ => ?_)
    · exact z_sub [] (J22  _) rfl
    · refine z_aload_n X (q := 0) dX7_sheetAt_13 rfl rfl ?_
      refine z_getr X hK (N := 14) (ci := 7) (k := 5) rfl (by decide) inlX7 (by decide) hf_X7_33 rfl spX_X7 rfl dX7_sheetAt_14 (fun o3 _ => ?_)
      refine z_iload_n X (q := 1) dX7_sheetAt_17 rfl rfl ?_
      refine z_aald12 X hK dX7_sheetAt_18 (fun o4 j5 _ _ => ?_)
      refine z_goto X (tgt := 23) dX7_sheetAt_19 (by decide) ?_
      subst hQ; exact z_aret X hlocks hr dX7_sheetAt_23
theorem zw_358 : Cond.methodLink RX7 147 yX7_sheetAt ∈ wsL_law := zr_36 _ (by decide +kernel)
theorem zw_359 : Cond.instanceMethod yX7_sheetAt ∈ wsL_law := zr_36 _ (by decide +kernel)
theorem zw_360 : Cond.selects RX7 yX7_sheetAt yX7_sheetAt ∈ wsL_law := zr_36 _ (by decide +kernel)
theorem zw_361 : Cond.code yX7_sheetAt cX7_sheetAt 2 (some (.object "WellGivesOther$Sheet")) ∈ wsL_law := zr_37 _ (by decide +kernel)
theorem hk_X7_147 : ∀ w ∈ ([Cond.methodLink RX7 147 yX7_sheetAt, Cond.instanceMethod yX7_sheetAt, Cond.selects RX7 yX7_sheetAt yX7_sheetAt, Cond.initialized RX7, Cond.code yX7_sheetAt cX7_sheetAt 2 (some (.object "WellGivesOther$Sheet"))] : List Cond), w ∈ wsL_law := List.forall_mem_cons.mpr ⟨zw_358, List.forall_mem_cons.mpr ⟨zw_359, List.forall_mem_cons.mpr ⟨zw_360, List.forall_mem_cons.mpr ⟨zw_322, List.forall_mem_cons.mpr ⟨zw_361, fun _ h => absurd h List.not_mem_nil⟩⟩⟩⟩⟩
theorem zw_362 : Cond.methodLink RX7 196 yX3_isMissing ∈ wsL_law := zr_37 _ (by decide +kernel)
theorem zw_363 : Cond.instanceMethod yX3_isMissing ∈ wsL_law := zr_37 _ (by decide +kernel)
theorem zw_364 : Cond.selects RX3 yX3_isMissing yX3_isMissing ∈ wsL_law := zr_37 _ (by decide +kernel)
theorem zw_365 : Cond.code yX3_isMissing cX3_isMissing 1 (some .boolean) ∈ wsL_law := zr_37 _ (by decide +kernel)
theorem hk_X7_196 : ∀ w ∈ ([Cond.methodLink RX7 196 yX3_isMissing, Cond.instanceMethod yX3_isMissing, Cond.selects RX3 yX3_isMissing yX3_isMissing, Cond.initialized RX3, Cond.code yX3_isMissing cX3_isMissing 1 (some .boolean)] : List Cond), w ∈ wsL_law := List.forall_mem_cons.mpr ⟨zw_362, List.forall_mem_cons.mpr ⟨zw_363, List.forall_mem_cons.mpr ⟨zw_364, List.forall_mem_cons.mpr ⟨zw_350, List.forall_mem_cons.mpr ⟨zw_365, fun _ h => absurd h List.not_mem_nil⟩⟩⟩⟩⟩
theorem zw_366 : Cond.methodLink RX7 280 yX3_holds ∈ wsL_law := zr_50 _ (by decide +kernel)
theorem zw_367 : Cond.instanceMethod yX3_holds ∈ wsL_law := zr_50 _ (by decide +kernel)
theorem zw_368 : Cond.selects RX3 yX3_holds yX3_holds ∈ wsL_law := zr_50 _ (by decide +kernel)
theorem zw_369 : Cond.code yX3_holds cX3_holds 3 (some .boolean) ∈ wsL_law := zr_50 _ (by decide +kernel)
theorem hk_X7_280 : ∀ w ∈ ([Cond.methodLink RX7 280 yX3_holds, Cond.instanceMethod yX3_holds, Cond.selects RX3 yX3_holds yX3_holds, Cond.initialized RX3, Cond.code yX3_holds cX3_holds 3 (some .boolean)] : List Cond), w ∈ wsL_law := List.forall_mem_cons.mpr ⟨zw_366, List.forall_mem_cons.mpr ⟨zw_367, List.forall_mem_cons.mpr ⟨zw_368, List.forall_mem_cons.mpr ⟨zw_350, List.forall_mem_cons.mpr ⟨zw_369, fun _ h => absurd h List.not_mem_nil⟩⟩⟩⟩⟩
theorem zw_370 : Cond.methodLink RX7 296 yX7_asker ∈ wsL_law := zr_50 _ (by decide +kernel)
theorem zw_371 : Cond.instanceMethod yX7_asker ∈ wsL_law := zr_20 _ (by decide +kernel)
theorem zw_372 : Cond.selects RX7 yX7_asker yX7_asker ∈ wsL_law := zr_20 _ (by decide +kernel)
theorem zw_373 : Cond.code yX7_asker cX7_asker 4 (some .int) ∈ wsL_law := zr_20 _ (by decide +kernel)
theorem hk_X7_296 : ∀ w ∈ ([Cond.methodLink RX7 296 yX7_asker, Cond.instanceMethod yX7_asker, Cond.selects RX7 yX7_asker yX7_asker, Cond.initialized RX7, Cond.code yX7_asker cX7_asker 4 (some .int)] : List Cond), w ∈ wsL_law := List.forall_mem_cons.mpr ⟨zw_370, List.forall_mem_cons.mpr ⟨zw_371, List.forall_mem_cons.mpr ⟨zw_372, List.forall_mem_cons.mpr ⟨zw_322, List.forall_mem_cons.mpr ⟨zw_373, fun _ h => absurd h List.not_mem_nil⟩⟩⟩⟩⟩
theorem hd_X3_holds : yX3_holds.cls = RX3 ∧ yX3_holds.cls ≠ "java/lang/invoke/MethodHandle" ∧ yX3_holds.cls ≠ "java/lang/invoke/VarHandle" ∧ (parseMethodDescriptor yX3_holds.desc).map (fun d => d.parameters.length) = some 2 := by decide +kernel
theorem hd_X3_isMissing : yX3_isMissing.cls = RX3 ∧ yX3_isMissing.cls ≠ "java/lang/invoke/MethodHandle" ∧ yX3_isMissing.cls ≠ "java/lang/invoke/VarHandle" ∧ (parseMethodDescriptor yX3_isMissing.desc).map (fun d => d.parameters.length) = some 0 := by decide +kernel
theorem hd_X7_asker : yX7_asker.cls = RX7 ∧ yX7_asker.cls ≠ "java/lang/invoke/MethodHandle" ∧ yX7_asker.cls ≠ "java/lang/invoke/VarHandle" ∧ (parseMethodDescriptor yX7_asker.desc).map (fun d => d.parameters.length) = some 2 := by decide +kernel
theorem hd_X7_sheetAt : yX7_sheetAt.cls = RX7 ∧ yX7_sheetAt.cls ≠ "java/lang/invoke/MethodHandle" ∧ yX7_sheetAt.cls ≠ "java/lang/invoke/VarHandle" ∧ (parseMethodDescriptor yX7_sheetAt.desc).map (fun d => d.parameters.length) = some 1 := by decide +kernel
theorem zw_374 : Cond.fieldLink RX7 277 "WellGivesOther$Sheet" "sort" "I" ∈ wsL_law := zr_50 _ (by decide +kernel)
theorem hf_X7_277 : Cond.fieldLink RX7 277 "WellGivesOther$Sheet" "sort" "I" ∈ wsL_law := zw_374
abbrev rmX7_askers : Room := { frames := 3, cells := 0, slots := 0, locals := 85 }
def fX7_askers_j122 (this : Nat) (k75 : Int32 → Option Nat → Int32 → Int32 → Int32 → zS → Option (Int32 × zS)) (y4 : Int32) (y5 : Option Nat) (y6 : Int32) (y7 : Int32) (y8 : Int32) (st : zS) : Option (Int32 × zS) :=
  k75 y4 y5 y6 (y7 + (2 : Int32)) (y8 + (1 : Int32)) st
def fX7_askers_L75 (this : Nat) : Nat → Int32 → Option Nat → Int32 → Int32 → Int32 → zS → Option (Int32 × zS)
  | 0, _, _, _, _, _, _ => none
  | n + 1, y4, y5, y6, y7, y8, st => if y4 ≤ y8 then (some (y6, st)) else ((zok spX st y5 3).bind fun o8 => (fX3_holds o8 y7 (2 : Int32) st).bind fun q1 => if q1.1 = 0 then (some ((-12 : Int32), q1.2)) else ((zok spX q1.2 y5 3).bind fun o7 => (fX3_at o7 y7 q1.2).bind fun q2 => (zok spX q2.2 y5 3).bind fun o6 => (fX3_at o6 (y7 + (1 : Int32)) q2.2).bind fun q3 => (zok spX q3.2 (some this) 7).bind fun o5 => (fX7_asker o5 q2.1 q3.1 q3.2).bind fun q4 => if q4.1 < 0 then (fX7_askers_j122 this (fX7_askers_L75 this n) y4 y5 y6 y7 y8 q4.2) else (fX7_askers_j122 this (fX7_askers_L75 this n) y4 y5 (y6 + (1 : Int32)) y7 y8 q4.2)))
def fX7_askers_j55 (this : Nat) (y3 : Int32) (y4 : Int32) (y5 : Option Nat) (st : zS) : Option (Int32 × zS) :=
  (zok spX st y5 3).bind fun o10 => (fX3_isMissing o10 st).bind fun q9 => if q9.1 = 0 then (fX7_askers_L75 this zF y4 y5 (0 : Int32) y3 (0 : Int32) q9.2) else (some ((-11 : Int32), q9.2))
def fX7_askers (this : Nat) (a1 : Int32) (a2 : Int32) (a3 : Int32) (a4 : Int32) (st : zS) : Option (Int32 × zS) :=
  (zok spX st (some this) 7).bind fun o15 => (fX7_sheetAt o15 a1 st).bind fun q11 => if q11.1 = none then (some ((-2 : Int32), q11.2)) else (if a2 < 0 then (some ((-2 : Int32), q11.2)) else (if (2 : Int32) < a2 then (some ((-2 : Int32), q11.2)) else (if a4 < 0 then (some ((-2 : Int32), q11.2)) else (if a4 ≤ (5 : Int32) then ((zok spX q11.2 q11.1 3).bind fun o14 => (fX3_isMissing o14 q11.2).bind fun q12 => if q12.1 = 0 then ((zok spX q12.2 q11.1 3).bind fun o13 => if (q12.2.2.1 o13 1) = a2 then (fX7_askers_j55 this a3 a4 q11.1 q12.2) else (some ((-13 : Int32), q12.2))) else (fX7_askers_j55 this a3 a4 q11.1 q12.2)) else (some ((-2 : Int32), q11.2))))))
set_option maxRecDepth 100000 in
set_option maxHeartbeats 4000000 in
theorem kX7_askers (l : Launch) (Z : zZ) (b : Nat) (x : Option Nat) (this : Nat) (a1 : Int32) (a2 : Int32) (a3 : Int32) (a4 : Int32) (st : zS) : zC l Z spX b x yX7_askers (.code yX7_askers cX7_askers 9 (some .int)) (rmX7_askers) rI [vP (some this), vI a1, vI a2, vI a3, vI a4] st (fX7_askers this a1 a2 a3 a4 st) := by
  refine z_start (own := RX7) rfl (by decide +kernel) (Nat.le_of_ble_eq_true rfl) rfl (fun p e s m args below meth c res Q A X hK hr hlocks hQ => ?_)
  have J75 : ∀ (n75 : Nat) (y4 : Int32) (y5 : Option Nat) (y6 : Int32) (y7 : Int32) (y8 : Int32) (st : zS), zs p l e (rmX7_askers) s m args below meth c Q Z spX b x A 9 0 0 res (fX7_askers_L75 this n75 y4 y5 y6 y7 y8 st) 75 [(0, vP (some this)), (4, vI y4), (5, vP y5), (6, vI y6), (7, vI y7), (8, vI y8)] [] st := by
    intro n75
    induction n75 with
    | zero => intros; exact z_none
    | succ n75 ih75 =>
      have J122 : ∀ (y4 : Int32) (y5 : Option Nat) (y6 : Int32) (y7 : Int32) (y8 : Int32) (st : zS), zs p l e (rmX7_askers) s m args below meth c Q Z spX b x A 9 0 0 res (fX7_askers_j122 this (fX7_askers_L75 this n75) y4 y5 y6 y7 y8 st) 122 [(0, vP (some this)), (4, vI y4), (5, vP y5), (6, vI y6), (7, vI y7), (8, vI y8)] [] st := by
        intro y4 y5 y6 y7 y8 st
        rw [fX7_askers_j122]
        refine z_iinc X (q := 4) (y := y7 + (2 : Int32)) dX7_askers_122 rfl rfl (Nat.le_of_ble_eq_true rfl) rfl ?_
        refine z_iinc X (q := 5) (y := y8 + (1 : Int32)) dX7_askers_125 rfl rfl (Nat.le_of_ble_eq_true rfl) rfl ?_
        refine z_goto X (tgt := 75) dX7_askers_128 (by decide) ?_
        exact z_sub [2, 3, 4, 5, 1, 0] (ih75 _ _ _ _ _ _) rfl
      intro y4 y5 y6 y7 y8 st
      rw [fX7_askers_L75]
      refine z_iload X (q := 5) dX7_askers_75 rfl ?_
      refine z_iload X (q := 1) dX7_askers_77 rfl ?_
      refine z_icmp_ge X (tgt := 131) dX7_askers_79 (by decide) (fun _ => ?_) (fun _ => ?_)
      · refine z_iload X (q := 3) dX7_askers_131 rfl ?_
        subst hQ; exact z_iret X hlocks hr dX7_askers_133
      · refine z_aload X (q := 2) dX7_askers_82 rfl ?_
        refine z_iload X (q := 4) dX7_askers_84 rfl ?_
        refine z_iconst X (v := (2 : Int32)) dX7_askers_86 (by decide) ?_
        refine z_callV X hK (As := [vI y7, vI (2 : Int32)]) (ci := 3) rfl (by decide) (fun o => (kX3_holds l Z  b x o _ _ _)) hk_X7_280 ⟨rfl, rfl⟩ hd_X3_holds ⟨Nat.le_of_ble_eq_true rfl, Nat.le_of_ble_eq_true rfl⟩ ⟨Nat.le_of_ble_eq_true rfl, Nat.le_of_ble_eq_true rfl⟩ rfl rfl (Nat.le_of_ble_eq_true rfl) dX7_askers_87 (fun _ q1 _ => ?_)
        refine z_if_ne X (tgt := 96) dX7_askers_90 (by decide) (fun _ => ?_) (fun _ => ?_)
        · refine z_aload_n X (q := 0) dX7_askers_96 rfl rfl ?_
          refine z_aload X (q := 2) dX7_askers_97 rfl ?_
          refine z_iload X (q := 4) dX7_askers_99 rfl ?_
          refine z_callV X hK (As := [vI y7]) (ci := 3) rfl (by decide) (fun o => (kX3_at l Z  b x o _ _)) hk_X7_293 ⟨rfl, rfl⟩ hd_X3_at ⟨Nat.le_of_ble_eq_true rfl, Nat.le_of_ble_eq_true rfl⟩ ⟨Nat.le_of_ble_eq_true rfl, Nat.le_of_ble_eq_true rfl⟩ rfl rfl (Nat.le_of_ble_eq_true rfl) dX7_askers_101 (fun _ q2 _ => ?_)
          refine z_aload X (q := 2) dX7_askers_104 rfl ?_
          refine z_iload X (q := 4) dX7_askers_106 rfl ?_
          refine z_iconst X (v := (1 : Int32)) dX7_askers_108 (by decide) ?_
          refine z_iadd X dX7_askers_109 ?_
          refine z_callV X hK (As := [vI (y7 + (1 : Int32))]) (ci := 3) rfl (by decide) (fun o => (kX3_at l Z  b x o _ _)) hk_X7_293 ⟨rfl, rfl⟩ hd_X3_at ⟨Nat.le_of_ble_eq_true rfl, Nat.le_of_ble_eq_true rfl⟩ ⟨Nat.le_of_ble_eq_true rfl, Nat.le_of_ble_eq_true rfl⟩ rfl rfl (Nat.le_of_ble_eq_true rfl) dX7_askers_110 (fun _ q3 _ => ?_)
          refine z_callV X hK (As := [vI q2.1, vI q3.1]) (ci := 7) rfl (by decide) (fun o => (kX7_asker l Z  b x o _ _ _)) hk_X7_296 ⟨rfl, rfl⟩ hd_X7_asker ⟨Nat.le_of_ble_eq_true rfl, Nat.le_of_ble_eq_true rfl⟩ ⟨Nat.le_of_ble_eq_true rfl, Nat.le_of_ble_eq_true rfl⟩ rfl rfl (Nat.le_of_ble_eq_true rfl) dX7_askers_113 (fun _ q4 _ => ?_)
          refine z_if_lt X (tgt := 122) dX7_askers_116 (by decide) (fun _ => ?_) (fun _ => ?_)
          · exact z_sub [0, 1, 2, 3, 4, 5] (J122 _ _ _ _ _ _) rfl
          · refine z_iinc X (q := 3) (y := y6 + (1 : Int32)) dX7_askers_119 rfl rfl (Nat.le_of_ble_eq_true rfl) rfl ?_
            exact z_sub [1, 2, 3, 0, 4, 5] (J122 _ _ _ _ _ _) rfl
        · refine z_bipush X (v := (-12 : Int32)) dX7_askers_93 (by decide) ?_
          subst hQ; exact z_iret X hlocks hr dX7_askers_95
  have J55 : ∀ (y3 : Int32) (y4 : Int32) (y5 : Option Nat) (st : zS), zs p l e (rmX7_askers) s m args below meth c Q Z spX b x A 9 0 0 res (fX7_askers_j55 this y3 y4 y5 st) 55 [(0, vP (some this)), (3, vI y3), (4, vI y4), (5, vP y5)] [] st := by
    intro y3 y4 y5 st
    rw [fX7_askers_j55]
    refine z_aload X (q := 3) dX7_askers_55 rfl ?_
    refine z_callV X hK (As := []) (ci := 3) rfl (by decide) (fun o => (kX3_isMissing l Z  b x o _)) hk_X7_196 ⟨rfl, rfl⟩ hd_X3_isMissing ⟨Nat.le_of_ble_eq_true rfl, Nat.le_of_ble_eq_true rfl⟩ ⟨Nat.le_of_ble_eq_true rfl, Nat.le_of_ble_eq_true rfl⟩ rfl rfl (Nat.le_of_ble_eq_true rfl) dX7_askers_57 (fun _ q9 _ => ?_)
    refine z_if_eq X (tgt := 66) dX7_askers_60 (by decide) (fun _ => ?_) (fun _ => ?_)
    · refine z_iconst X (v := (0 : Int32)) dX7_askers_66 (by decide) ?_
      refine z_istore X dX7_askers_67 (Nat.le_of_ble_eq_true rfl) rfl ?_
      refine z_iload_n X (q := 2) dX7_askers_69 rfl rfl ?_
      refine z_istore X dX7_askers_70 (Nat.le_of_ble_eq_true rfl) rfl ?_
      refine z_iconst X (v := (0 : Int32)) dX7_askers_72 (by decide) ?_
      refine z_istore X dX7_askers_73 (Nat.le_of_ble_eq_true rfl) rfl ?_
      exact z_sub [3, 5, 6, 2, 1, 0] (J75 _ _ _ _ _ _ _) rfl
    · refine z_bipush X (v := (-11 : Int32)) dX7_askers_63 (by decide) ?_
      subst hQ; exact z_iret X hlocks hr dX7_askers_65
  rw [fX7_askers]
  refine z_aload_n X (q := 0) dX7_askers_0 rfl rfl ?_
  refine z_iload_n X (q := 1) dX7_askers_1 rfl rfl ?_
  refine z_callV X hK (As := [vI a1]) (ci := 7) rfl (by decide) (fun o => (kX7_sheetAt l Z  b x o _ _)) hk_X7_147 ⟨rfl, rfl⟩ hd_X7_sheetAt ⟨Nat.le_of_ble_eq_true rfl, Nat.le_of_ble_eq_true rfl⟩ ⟨Nat.le_of_ble_eq_true rfl, Nat.le_of_ble_eq_true rfl⟩ rfl rfl (Nat.le_of_ble_eq_true rfl) dX7_askers_2 (fun _ q11 _ => ?_)
  refine z_astore X dX7_askers_5 (Nat.le_of_ble_eq_true rfl) rfl ?_
  refine z_aload X (q := 0) dX7_askers_7 rfl ?_
  refine z_ifnull X (tgt := 32) dX7_askers_9 (by decide) (fun _ => ?_) (fun _ => ?_)
  · refine z_bipush X (v := (-2 : Int32)) dX7_askers_32 (by decide) ?_
    subst hQ; exact z_iret X hlocks hr dX7_askers_34
  · refine z_iload_n X (q := 3) dX7_askers_12 rfl rfl ?_
    refine z_if_lt X (tgt := 32) dX7_askers_13 (by decide) (fun _ => ?_) (fun _ => ?_)
    · refine z_bipush X (v := (-2 : Int32)) dX7_askers_32 (by decide) ?_
      subst hQ; exact z_iret X hlocks hr dX7_askers_34
    · refine z_iload_n X (q := 3) dX7_askers_16 rfl rfl ?_
      refine z_iconst X (v := (2 : Int32)) dX7_askers_17 (by decide) ?_
      refine z_icmp_gt X (tgt := 32) dX7_askers_18 (by decide) (fun _ => ?_) (fun _ => ?_)
      · refine z_bipush X (v := (-2 : Int32)) dX7_askers_32 (by decide) ?_
        subst hQ; exact z_iret X hlocks hr dX7_askers_34
      · refine z_iload X (q := 5) dX7_askers_21 rfl ?_
        refine z_if_lt X (tgt := 32) dX7_askers_23 (by decide) (fun _ => ?_) (fun _ => ?_)
        · refine z_bipush X (v := (-2 : Int32)) dX7_askers_32 (by decide) ?_
          subst hQ; exact z_iret X hlocks hr dX7_askers_34
        · refine z_iload X (q := 5) dX7_askers_26 rfl ?_
          refine z_iconst X (v := (5 : Int32)) dX7_askers_28 (by decide) ?_
          refine z_icmp_le X (tgt := 35) dX7_askers_29 (by decide) (fun _ => ?_) (fun _ => ?_)
          · refine z_aload X (q := 0) dX7_askers_35 rfl ?_
            refine z_callV X hK (As := []) (ci := 3) rfl (by decide) (fun o => (kX3_isMissing l Z  b x o _)) hk_X7_196 ⟨rfl, rfl⟩ hd_X3_isMissing ⟨Nat.le_of_ble_eq_true rfl, Nat.le_of_ble_eq_true rfl⟩ ⟨Nat.le_of_ble_eq_true rfl, Nat.le_of_ble_eq_true rfl⟩ rfl rfl (Nat.le_of_ble_eq_true rfl) dX7_askers_37 (fun _ q12 _ => ?_)
            refine z_if_ne X (tgt := 55) dX7_askers_40 (by decide) (fun _ => ?_) (fun _ => ?_)
            · exact z_sub [1, 4, 5, 0] (J55 _ _ _ _) rfl
            · refine z_aload X (q := 0) dX7_askers_43 rfl ?_
              refine z_geti X hK (N := 3) (ci := 3) (k := 1) rfl (by decide) inlX3 (by decide) hf_X7_277 rfl spX_X3 rfl dX7_askers_45 (fun o13 _ => ?_)
              refine z_iload_n X (q := 3) dX7_askers_48 rfl rfl ?_
              refine z_icmp_eq X (tgt := 55) dX7_askers_49 (by decide) (fun _ => ?_) (fun _ => ?_)
              · exact z_sub [1, 4, 5, 0] (J55 _ _ _ _) rfl
              · refine z_bipush X (v := (-13 : Int32)) dX7_askers_52 (by decide) ?_
                subst hQ; exact z_iret X hlocks hr dX7_askers_54
          · refine z_bipush X (v := (-2 : Int32)) dX7_askers_32 (by decide) ?_
            subst hQ; exact z_iret X hlocks hr dX7_askers_34
theorem zw_375 : Cond.methodLink RX7 115 yX6_openBy ∈ wsL_law := zr_25 _ (by decide +kernel)
theorem hk_X7_115 : ∀ w ∈ ([Cond.methodLink RX7 115 yX6_openBy, Cond.instanceMethod yX6_openBy, Cond.selects RX6 yX6_openBy yX6_openBy, Cond.initialized RX6, Cond.code yX6_openBy cX6_openBy 3 (some .int)] : List Cond), w ∈ wsL_law := List.forall_mem_cons.mpr ⟨zw_375, List.forall_mem_cons.mpr ⟨zw_180, List.forall_mem_cons.mpr ⟨zw_181, List.forall_mem_cons.mpr ⟨zw_137, List.forall_mem_cons.mpr ⟨zw_182, fun _ h => absurd h List.not_mem_nil⟩⟩⟩⟩⟩
theorem zw_376 : Cond.methodLink RX7 118 yX6_givenBy ∈ wsL_law := zr_22 _ (by decide +kernel)
theorem hk_X7_118 : ∀ w ∈ ([Cond.methodLink RX7 118 yX6_givenBy, Cond.instanceMethod yX6_givenBy, Cond.selects RX6 yX6_givenBy yX6_givenBy, Cond.initialized RX6, Cond.code yX6_givenBy cX6_givenBy 4 (some .int)] : List Cond), w ∈ wsL_law := List.forall_mem_cons.mpr ⟨zw_376, List.forall_mem_cons.mpr ⟨zw_195, List.forall_mem_cons.mpr ⟨zw_196, List.forall_mem_cons.mpr ⟨zw_137, List.forall_mem_cons.mpr ⟨zw_197, fun _ h => absurd h List.not_mem_nil⟩⟩⟩⟩⟩
theorem zw_377 : Cond.methodLink RX7 121 yX6_shutBy ∈ wsL_law := zr_25 _ (by decide +kernel)
theorem hk_X7_121 : ∀ w ∈ ([Cond.methodLink RX7 121 yX6_shutBy, Cond.instanceMethod yX6_shutBy, Cond.selects RX6 yX6_shutBy yX6_shutBy, Cond.initialized RX6, Cond.code yX6_shutBy cX6_shutBy 2 (some .int)] : List Cond), w ∈ wsL_law := List.forall_mem_cons.mpr ⟨zw_377, List.forall_mem_cons.mpr ⟨zw_199, List.forall_mem_cons.mpr ⟨zw_200, List.forall_mem_cons.mpr ⟨zw_137, List.forall_mem_cons.mpr ⟨zw_201, fun _ h => absurd h List.not_mem_nil⟩⟩⟩⟩⟩
theorem zw_378 : Cond.methodLink RX7 124 yX6_costOf ∈ wsL_law := zr_25 _ (by decide +kernel)
theorem hk_X7_124 : ∀ w ∈ ([Cond.methodLink RX7 124 yX6_costOf, Cond.instanceMethod yX6_costOf, Cond.selects RX6 yX6_costOf yX6_costOf, Cond.initialized RX6, Cond.code yX6_costOf cX6_costOf 2 (some .int)] : List Cond), w ∈ wsL_law := List.forall_mem_cons.mpr ⟨zw_378, List.forall_mem_cons.mpr ⟨zw_203, List.forall_mem_cons.mpr ⟨zw_204, List.forall_mem_cons.mpr ⟨zw_137, List.forall_mem_cons.mpr ⟨zw_205, fun _ h => absurd h List.not_mem_nil⟩⟩⟩⟩⟩
abbrev rmX7_asks : Room := { frames := 5, cells := 0, slots := 0, locals := 136 }
def fX7_asks (this : Nat) (a1 : Int32) (a2 : Int32) (a3 : Int32) (st : zS) : Option (Int32 × zS) :=
  (zok spX st (some this) 7).bind fun o15 => (fX7_visitOf o15 a1 st).bind fun q1 => if q1.1 = none then (some ((-2 : Int32), q1.2)) else ((fX7_isAsked a2 q1.2).bind fun q2 => if q2.1 = 0 then (some ((-2 : Int32), q2.2)) else (if a3 = (0 : Int32) then ((zok spX q2.2 q1.1 6).bind fun o5 => (fX6_openBy o5 a2 q2.2).bind fun q4 => some (q4.1, q4.2)) else (if a3 = (1 : Int32) then ((zok spX q2.2 q1.1 6).bind fun o8 => (fX6_givenBy o8 a2 q2.2).bind fun q7 => some (q7.1, q7.2)) else (if a3 = (2 : Int32) then ((zok spX q2.2 q1.1 6).bind fun o11 => (fX6_shutBy o11 a2 q2.2).bind fun q10 => some (q10.1, q10.2)) else (if a3 = (3 : Int32) then ((zok spX q2.2 q1.1 6).bind fun o14 => (fX6_costOf o14 a2 q2.2).bind fun q13 => some (q13.1, q13.2)) else (some ((-2 : Int32), q2.2)))))))
set_option maxRecDepth 100000 in
set_option maxHeartbeats 4000000 in
theorem kX7_asks (l : Launch) (Z : zZ) (b : Nat) (x : Option Nat) (this : Nat) (a1 : Int32) (a2 : Int32) (a3 : Int32) (st : zS) : zC l Z spX b x yX7_asks (.code yX7_asks cX7_asks 5 (some .int)) (rmX7_asks) rI [vP (some this), vI a1, vI a2, vI a3] st (fX7_asks this a1 a2 a3 st) := by
  refine z_start (own := RX7) rfl (by decide +kernel) (Nat.le_of_ble_eq_true rfl) rfl (fun p e s m args below meth c res Q A X hK hr hlocks hQ => ?_)
  rw [fX7_asks]
  refine z_aload_n X (q := 0) dX7_asks_0 rfl rfl ?_
  refine z_iload_n X (q := 1) dX7_asks_1 rfl rfl ?_
  refine z_callV X hK (As := [vI a1]) (ci := 7) rfl (by decide) (fun o => (kX7_visitOf l Z  b x o _ _)) hk_X7_108 ⟨rfl, rfl⟩ hd_X7_visitOf ⟨Nat.le_of_ble_eq_true rfl, Nat.le_of_ble_eq_true rfl⟩ ⟨Nat.le_of_ble_eq_true rfl, Nat.le_of_ble_eq_true rfl⟩ rfl rfl (Nat.le_of_ble_eq_true rfl) dX7_asks_2 (fun _ q1 _ => ?_)
  refine z_astore X dX7_asks_5 (Nat.le_of_ble_eq_true rfl) rfl ?_
  refine z_aload X (q := 0) dX7_asks_7 rfl ?_
  refine z_ifnull X (tgt := 19) dX7_asks_9 (by decide) (fun _ => ?_) (fun _ => ?_)
  · refine z_bipush X (v := (-2 : Int32)) dX7_asks_19 (by decide) ?_
    subst hQ; exact z_iret X hlocks hr dX7_asks_21
  · refine z_iload_n X (q := 3) dX7_asks_12 rfl rfl ?_
    refine z_callS X hK (As := [vI a2]) (kX7_isAsked l Z  b x _ _) hk_X7_112 ⟨rfl, rfl⟩ hd_X7_isAsked.2 ⟨Nat.le_of_ble_eq_true rfl, Nat.le_of_ble_eq_true rfl⟩ ⟨Nat.le_of_ble_eq_true rfl, Nat.le_of_ble_eq_true rfl⟩ rfl rfl (Nat.le_of_ble_eq_true rfl) dX7_asks_13 (fun q2 => ?_)
    refine z_if_ne X (tgt := 22) dX7_asks_16 (by decide) (fun _ => ?_) (fun _ => ?_)
    · refine z_iload_n X (q := 4) dX7_asks_22 rfl rfl ?_
      refine z_ite (fun h3 => ?_) (fun h3 => ?_)
      · refine z_tabIn X (off := 29) (tgt := 52) dX7_asks_23 (by rw [h3]; decide) (by rw [h3]; decide) (by rw [h3]; rfl) (by decide) ?_
        refine z_aload X (q := 0) dX7_asks_52 rfl ?_
        refine z_iload_n X (q := 3) dX7_asks_54 rfl rfl ?_
        refine z_callV X hK (As := [vI a2]) (ci := 6) rfl (by decide) (fun o => (kX6_openBy l Z  b x o _ _)) hk_X7_115 ⟨rfl, rfl⟩ hd_X6_openBy ⟨Nat.le_of_ble_eq_true rfl, Nat.le_of_ble_eq_true rfl⟩ ⟨Nat.le_of_ble_eq_true rfl, Nat.le_of_ble_eq_true rfl⟩ rfl rfl (Nat.le_of_ble_eq_true rfl) dX7_asks_55 (fun _ q4 _ => ?_)
        subst hQ; exact z_iret X hlocks hr dX7_asks_58
      refine z_ite (fun h6 => ?_) (fun h6 => ?_)
      · refine z_tabIn X (off := 36) (tgt := 59) dX7_asks_23 (by rw [h6]; decide) (by rw [h6]; decide) (by rw [h6]; rfl) (by decide) ?_
        refine z_aload X (q := 0) dX7_asks_59 rfl ?_
        refine z_iload_n X (q := 3) dX7_asks_61 rfl rfl ?_
        refine z_callV X hK (As := [vI a2]) (ci := 6) rfl (by decide) (fun o => (kX6_givenBy l Z  b x o _ _)) hk_X7_118 ⟨rfl, rfl⟩ hd_X6_givenBy ⟨Nat.le_of_ble_eq_true rfl, Nat.le_of_ble_eq_true rfl⟩ ⟨Nat.le_of_ble_eq_true rfl, Nat.le_of_ble_eq_true rfl⟩ rfl rfl (Nat.le_of_ble_eq_true rfl) dX7_asks_62 (fun _ q7 _ => ?_)
        subst hQ; exact z_iret X hlocks hr dX7_asks_65
      refine z_ite (fun h9 => ?_) (fun h9 => ?_)
      · refine z_tabIn X (off := 43) (tgt := 66) dX7_asks_23 (by rw [h9]; decide) (by rw [h9]; decide) (by rw [h9]; rfl) (by decide) ?_
        refine z_aload X (q := 0) dX7_asks_66 rfl ?_
        refine z_iload_n X (q := 3) dX7_asks_68 rfl rfl ?_
        refine z_callV X hK (As := [vI a2]) (ci := 6) rfl (by decide) (fun o => (kX6_shutBy l Z  b x o _ _)) hk_X7_121 ⟨rfl, rfl⟩ hd_X6_shutBy ⟨Nat.le_of_ble_eq_true rfl, Nat.le_of_ble_eq_true rfl⟩ ⟨Nat.le_of_ble_eq_true rfl, Nat.le_of_ble_eq_true rfl⟩ rfl rfl (Nat.le_of_ble_eq_true rfl) dX7_asks_69 (fun _ q10 _ => ?_)
        subst hQ; exact z_iret X hlocks hr dX7_asks_72
      refine z_ite (fun h12 => ?_) (fun h12 => ?_)
      · refine z_tabIn X (off := 50) (tgt := 73) dX7_asks_23 (by rw [h12]; decide) (by rw [h12]; decide) (by rw [h12]; rfl) (by decide) ?_
        refine z_aload X (q := 0) dX7_asks_73 rfl ?_
        refine z_iload_n X (q := 3) dX7_asks_75 rfl rfl ?_
        refine z_callV X hK (As := [vI a2]) (ci := 6) rfl (by decide) (fun o => (kX6_costOf l Z  b x o _ _)) hk_X7_124 ⟨rfl, rfl⟩ hd_X6_costOf ⟨Nat.le_of_ble_eq_true rfl, Nat.le_of_ble_eq_true rfl⟩ ⟨Nat.le_of_ble_eq_true rfl, Nat.le_of_ble_eq_true rfl⟩ rfl rfl (Nat.le_of_ble_eq_true rfl) dX7_asks_76 (fun _ q13 _ => ?_)
        subst hQ; exact z_iret X hlocks hr dX7_asks_79
      refine z_tabOut X (tgt := 80) dX7_asks_23 (by have := lv_neT (a := 0) h3 (by decide); have := lv_neT (a := 1) h6 (by decide); have := lv_neT (a := 2) h9 (by decide); have := lv_neT (a := 3) h12 (by decide); omega) (by decide) ?_
      refine z_bipush X (v := (-2 : Int32)) dX7_asks_80 (by decide) ?_
      subst hQ; exact z_iret X hlocks hr dX7_asks_82
    · refine z_bipush X (v := (-2 : Int32)) dX7_asks_19 (by decide) ?_
      subst hQ; exact z_iret X hlocks hr dX7_asks_21
theorem zw_379 : Cond.methodLink RX7 273 yX1_layBack ∈ wsL_law := zr_48 _ (by decide +kernel)
theorem zw_380 : Cond.instanceMethod yX1_layBack ∈ wsL_law := zr_48 _ (by decide +kernel)
theorem zw_381 : Cond.selects RX1 yX1_layBack yX1_layBack ∈ wsL_law := zr_48 _ (by decide +kernel)
theorem zw_382 : Cond.code yX1_layBack cX1_layBack 3 none ∈ wsL_law := zr_48 _ (by decide +kernel)
theorem hk_X7_273 : ∀ w ∈ ([Cond.methodLink RX7 273 yX1_layBack, Cond.instanceMethod yX1_layBack, Cond.selects RX1 yX1_layBack yX1_layBack, Cond.initialized RX1, Cond.code yX1_layBack cX1_layBack 3 none] : List Cond), w ∈ wsL_law := List.forall_mem_cons.mpr ⟨zw_379, List.forall_mem_cons.mpr ⟨zw_380, List.forall_mem_cons.mpr ⟨zw_381, List.forall_mem_cons.mpr ⟨zw_228, List.forall_mem_cons.mpr ⟨zw_382, fun _ h => absurd h List.not_mem_nil⟩⟩⟩⟩⟩
theorem hd_X1_layBack : yX1_layBack.cls = RX1 ∧ yX1_layBack.cls ≠ "java/lang/invoke/MethodHandle" ∧ yX1_layBack.cls ≠ "java/lang/invoke/VarHandle" ∧ (parseMethodDescriptor yX1_layBack.desc).map (fun d => d.parameters.length) = some 2 := by decide +kernel
theorem zw_383 : Cond.fieldLink RX7 270 "WellGivesOther$Picture" "today" "I" ∈ wsL_law := zr_47 _ (by decide +kernel)
theorem hf_X7_270 : Cond.fieldLink RX7 270 "WellGivesOther$Picture" "today" "I" ∈ wsL_law := zw_383
theorem zw_384 : Cond.fieldLink RX7 271 "WellGivesOther$Picture" "rule" "I" ∈ wsL_law := zr_47 _ (by decide +kernel)
theorem hf_X7_271 : Cond.fieldLink RX7 271 "WellGivesOther$Picture" "rule" "I" ∈ wsL_law := zw_384
theorem zw_385 : Cond.fieldLink RX7 272 "WellGivesOther$Picture" "askerCount" "I" ∈ wsL_law := zr_48 _ (by decide +kernel)
theorem hf_X7_272 : Cond.fieldLink RX7 272 "WellGivesOther$Picture" "askerCount" "I" ∈ wsL_law := zw_385
theorem zw_386 : Cond.fieldLink RX7 56 "WellGivesOther" "picture" "LWellGivesOther$Picture;" ∈ wsL_law := zr_2 _ (by decide +kernel)
theorem hf_X7_56 : Cond.fieldLink RX7 56 "WellGivesOther" "picture" "LWellGivesOther$Picture;" ∈ wsL_law := zw_386
theorem zw_387 : Cond.fieldLink RX7 9 "WellGivesOther" "likes" "[I" ∈ wsL_law := zr_1 _ (by decide +kernel)
theorem hf_X7_9 : Cond.fieldLink RX7 9 "WellGivesOther" "likes" "[I" ∈ wsL_law := zw_387
abbrev rmX7_back : Room := { frames := 4, cells := 0, slots := 0, locals := 105 }
def fX7_back (this : Nat) (st : zS) : Option (Int32 × zS) :=
  (zok spX st (some this) 7).bind fun o1 => (zok spX st (st.2.2.2 o1 8) 1).bind fun o2 => if (st.2.1 o2 4) = (-1 : Int32) then (some ((-3 : Int32), st)) else ((zok spX st (some this) 7).bind fun o3 => (zok spX st (some this) 7).bind fun o4 => (zok spX st (some this) 7).bind fun o5 => (zok spX st (st.2.2.2 o3 8) 1).bind fun o20 => (fX1_layBack o20 (st.2.2.2 o4 0) (st.2.2.2 o5 3) st).bind fun q6 => (zok spX q6.2 (some this) 7).bind fun o7 => (zok spX q6.2 (q6.2.2.2.2 o7 8) 1).bind fun o8 => (zok spX q6.2 (some this) 7).bind fun o9 => zlet (zp q6.2 o9 9 (q6.2.2.1 o8 2)) fun st10 => (zok spX st10 (some this) 7).bind fun o11 => (zok spX st10 (st10.2.2.2 o11 8) 1).bind fun o12 => (zok spX st10 (some this) 7).bind fun o13 => zlet (zp st10 o13 12 (st10.2.1 o12 3)) fun st14 => (zok spX st14 (some this) 7).bind fun o15 => (zok spX st14 (st14.2.2.2 o15 8) 1).bind fun o16 => (zok spX st14 (some this) 7).bind fun o17 => zlet (zp st14 o17 10 (st14.2.1 o16 4)) fun st18 => (zok spX st18 (some this) 7).bind fun o19 => some ((st18.2.1 o19 10), st18))
set_option maxRecDepth 100000 in
set_option maxHeartbeats 4000000 in
theorem kX7_back (l : Launch) (Z : zZ) (b : Nat) (x : Option Nat) (this : Nat) (st : zS) : zC l Z spX b x yX7_back (.code yX7_back cX7_back 1 (some .int)) (rmX7_back) rI [vP (some this)] st (fX7_back this st) := by
  refine z_start (own := RX7) rfl (by decide +kernel) (Nat.le_of_ble_eq_true rfl) rfl (fun p e s m args below meth c res Q A X hK hr hlocks hQ => ?_)
  rw [fX7_back]
  refine z_aload_n X (q := 0) dX7_back_0 rfl rfl ?_
  refine z_getr X hK (N := 14) (ci := 7) (k := 8) rfl (by decide) inlX7 (by decide) hf_X7_56 rfl spX_X7 rfl dX7_back_1 (fun o1 _ => ?_)
  refine z_geti X hK (N := 5) (ci := 1) (k := 4) rfl (by decide) inlX1 (by decide) hf_X7_272 rfl spX_X1 rfl dX7_back_4 (fun o2 _ => ?_)
  refine z_iconst X (v := (-1 : Int32)) dX7_back_7 (by decide) ?_
  refine z_icmp_ne X (tgt := 14) dX7_back_8 (by decide) (fun _ => ?_) (fun _ => ?_)
  · refine z_aload_n X (q := 0) dX7_back_14 rfl rfl ?_
    refine z_getr X hK (N := 14) (ci := 7) (k := 8) rfl (by decide) inlX7 (by decide) hf_X7_56 rfl spX_X7 rfl dX7_back_15 (fun o3 _ => ?_)
    refine z_aload_n X (q := 0) dX7_back_18 rfl rfl ?_
    refine z_getr X hK (N := 14) (ci := 7) (k := 0) rfl (by decide) inlX7 (by decide) hf_X7_9 rfl spX_X7 rfl dX7_back_19 (fun o4 _ => ?_)
    refine z_aload_n X (q := 0) dX7_back_22 rfl rfl ?_
    refine z_getr X hK (N := 14) (ci := 7) (k := 3) rfl (by decide) inlX7 (by decide) hf_X7_21 rfl spX_X7 rfl dX7_back_23 (fun o5 _ => ?_)
    refine z_callV X hK (As := [vP (st.2.2.2 o4 0), vP (st.2.2.2 o5 3)]) (ci := 1) rfl (by decide) (fun o => (kX1_layBack l Z  b x o _ _ _)) hk_X7_273 ⟨rfl, rfl⟩ hd_X1_layBack ⟨Nat.le_of_ble_eq_true rfl, Nat.le_of_ble_eq_true rfl⟩ ⟨Nat.le_of_ble_eq_true rfl, Nat.le_of_ble_eq_true rfl⟩ rfl rfl (Nat.le_of_ble_eq_true rfl) dX7_back_26 (fun _ q6 _ => ?_)
    refine z_aload_n X (q := 0) dX7_back_29 rfl rfl ?_
    refine z_aload_n X (q := 0) dX7_back_30 rfl rfl ?_
    refine z_getr X hK (N := 14) (ci := 7) (k := 8) rfl (by decide) inlX7 (by decide) hf_X7_56 rfl spX_X7 rfl dX7_back_31 (fun o7 _ => ?_)
    refine z_geti X hK (N := 5) (ci := 1) (k := 2) rfl (by decide) inlX1 (by decide) hf_X7_270 rfl spX_X1 rfl dX7_back_34 (fun o8 _ => ?_)
    refine z_puti X hK (N := 14) (ci := 7) (k := 9) rfl (by decide) inlX7 tyX7 tyX7_ok nmX7 (by decide) hf_X7_85 rfl rfl spX_X7 rfl (by decide +kernel) dX7_back_37 (fun o9 st10 _ => ?_)
    refine z_aload_n X (q := 0) dX7_back_40 rfl rfl ?_
    refine z_aload_n X (q := 0) dX7_back_41 rfl rfl ?_
    refine z_getr X hK (N := 14) (ci := 7) (k := 8) rfl (by decide) inlX7 (by decide) hf_X7_56 rfl spX_X7 rfl dX7_back_42 (fun o11 _ => ?_)
    refine z_geti X hK (N := 5) (ci := 1) (k := 3) rfl (by decide) inlX1 (by decide) hf_X7_271 rfl spX_X1 rfl dX7_back_45 (fun o12 _ => ?_)
    refine z_puti X hK (N := 14) (ci := 7) (k := 12) rfl (by decide) inlX7 tyX7 tyX7_ok nmX7 (by decide) hf_X7_137 rfl rfl spX_X7 rfl (by decide +kernel) dX7_back_48 (fun o13 st14 _ => ?_)
    refine z_aload_n X (q := 0) dX7_back_51 rfl rfl ?_
    refine z_aload_n X (q := 0) dX7_back_52 rfl rfl ?_
    refine z_getr X hK (N := 14) (ci := 7) (k := 8) rfl (by decide) inlX7 (by decide) hf_X7_56 rfl spX_X7 rfl dX7_back_53 (fun o15 _ => ?_)
    refine z_geti X hK (N := 5) (ci := 1) (k := 4) rfl (by decide) inlX1 (by decide) hf_X7_272 rfl spX_X1 rfl dX7_back_56 (fun o16 _ => ?_)
    refine z_puti X hK (N := 14) (ci := 7) (k := 10) rfl (by decide) inlX7 tyX7 tyX7_ok nmX7 (by decide) hf_X7_99 rfl rfl spX_X7 rfl (by decide +kernel) dX7_back_59 (fun o17 st18 _ => ?_)
    refine z_aload_n X (q := 0) dX7_back_62 rfl rfl ?_
    refine z_geti X hK (N := 14) (ci := 7) (k := 10) rfl (by decide) inlX7 (by decide) hf_X7_99 rfl spX_X7 rfl dX7_back_63 (fun o19 _ => ?_)
    subst hQ; exact z_iret X hlocks hr dX7_back_66
  · refine z_bipush X (v := (-3 : Int32)) dX7_back_11 (by decide) ?_
    subst hQ; exact z_iret X hlocks hr dX7_back_13
theorem zw_388 : Cond.methodLink RX7 259 yX3_put ∈ wsL_law := zr_45 _ (by decide +kernel)
theorem zw_389 : Cond.instanceMethod yX3_put ∈ wsL_law := zr_45 _ (by decide +kernel)
theorem zw_390 : Cond.selects RX3 yX3_put yX3_put ∈ wsL_law := zr_45 _ (by decide +kernel)
theorem zw_391 : Cond.code yX3_put cX3_put 3 none ∈ wsL_law := zr_45 _ (by decide +kernel)
theorem hk_X7_259 : ∀ w ∈ ([Cond.methodLink RX7 259 yX3_put, Cond.instanceMethod yX3_put, Cond.selects RX3 yX3_put yX3_put, Cond.initialized RX3, Cond.code yX3_put cX3_put 3 none] : List Cond), w ∈ wsL_law := List.forall_mem_cons.mpr ⟨zw_388, List.forall_mem_cons.mpr ⟨zw_389, List.forall_mem_cons.mpr ⟨zw_390, List.forall_mem_cons.mpr ⟨zw_350, List.forall_mem_cons.mpr ⟨zw_391, fun _ h => absurd h List.not_mem_nil⟩⟩⟩⟩⟩
theorem hd_X3_put : yX3_put.cls = RX3 ∧ yX3_put.cls ≠ "java/lang/invoke/MethodHandle" ∧ yX3_put.cls ≠ "java/lang/invoke/VarHandle" ∧ (parseMethodDescriptor yX3_put.desc).map (fun d => d.parameters.length) = some 2 := by decide +kernel
abbrev rmX7_cell : Room := { frames := 2, cells := 0, slots := 0, locals := 62 }
def fX7_cell (this : Nat) (a1 : Int32) (a2 : Int32) (a3 : Int32) (st : zS) : Option (Int32 × zS) :=
  (zok spX st (some this) 7).bind fun o7 => (fX7_sheetAt o7 a1 st).bind fun q1 => if q1.1 = none then (some ((-2 : Int32), q1.2)) else ((zok spX q1.2 q1.1 3).bind fun o6 => (fX3_isMissing o6 q1.2).bind fun q2 => if q2.1 = 0 then (if a2 < 0 then (some ((-12 : Int32), q2.2)) else ((zok spX q2.2 q1.1 3).bind fun o3 => if a2 < (q2.2.2.1 o3 2) then ((zok spX q2.2 q1.1 3).bind fun o5 => (fX3_put o5 a2 a3 q2.2).bind fun q4 => some ((1 : Int32), q4.2)) else (some ((-12 : Int32), q2.2)))) else (some ((-11 : Int32), q2.2)))
set_option maxRecDepth 100000 in
set_option maxHeartbeats 4000000 in
theorem kX7_cell (l : Launch) (Z : zZ) (b : Nat) (x : Option Nat) (this : Nat) (a1 : Int32) (a2 : Int32) (a3 : Int32) (st : zS) : zC l Z spX b x yX7_cell (.code yX7_cell cX7_cell 5 (some .int)) (rmX7_cell) rI [vP (some this), vI a1, vI a2, vI a3] st (fX7_cell this a1 a2 a3 st) := by
  refine z_start (own := RX7) rfl (by decide +kernel) (Nat.le_of_ble_eq_true rfl) rfl (fun p e s m args below meth c res Q A X hK hr hlocks hQ => ?_)
  rw [fX7_cell]
  refine z_aload_n X (q := 0) dX7_cell_0 rfl rfl ?_
  refine z_iload_n X (q := 1) dX7_cell_1 rfl rfl ?_
  refine z_callV X hK (As := [vI a1]) (ci := 7) rfl (by decide) (fun o => (kX7_sheetAt l Z  b x o _ _)) hk_X7_147 ⟨rfl, rfl⟩ hd_X7_sheetAt ⟨Nat.le_of_ble_eq_true rfl, Nat.le_of_ble_eq_true rfl⟩ ⟨Nat.le_of_ble_eq_true rfl, Nat.le_of_ble_eq_true rfl⟩ rfl rfl (Nat.le_of_ble_eq_true rfl) dX7_cell_2 (fun _ q1 _ => ?_)
  refine z_astore X dX7_cell_5 (Nat.le_of_ble_eq_true rfl) rfl ?_
  refine z_aload X (q := 0) dX7_cell_7 rfl ?_
  refine z_ifnonnull X (tgt := 15) dX7_cell_9 (by decide) (fun _ => ?_) (fun _ => ?_)
  · refine z_aload X (q := 0) dX7_cell_15 rfl ?_
    refine z_callV X hK (As := []) (ci := 3) rfl (by decide) (fun o => (kX3_isMissing l Z  b x o _)) hk_X7_196 ⟨rfl, rfl⟩ hd_X3_isMissing ⟨Nat.le_of_ble_eq_true rfl, Nat.le_of_ble_eq_true rfl⟩ ⟨Nat.le_of_ble_eq_true rfl, Nat.le_of_ble_eq_true rfl⟩ rfl rfl (Nat.le_of_ble_eq_true rfl) dX7_cell_17 (fun _ q2 _ => ?_)
    refine z_if_eq X (tgt := 26) dX7_cell_20 (by decide) (fun _ => ?_) (fun _ => ?_)
    · refine z_iload_n X (q := 3) dX7_cell_26 rfl rfl ?_
      refine z_if_lt X (tgt := 39) dX7_cell_27 (by decide) (fun _ => ?_) (fun _ => ?_)
      · refine z_bipush X (v := (-12 : Int32)) dX7_cell_39 (by decide) ?_
        subst hQ; exact z_iret X hlocks hr dX7_cell_41
      · refine z_iload_n X (q := 3) dX7_cell_30 rfl rfl ?_
        refine z_aload X (q := 0) dX7_cell_31 rfl ?_
        refine z_geti X hK (N := 3) (ci := 3) (k := 2) rfl (by decide) inlX3 (by decide) hf_X7_228 rfl spX_X3 rfl dX7_cell_33 (fun o3 _ => ?_)
        refine z_icmp_lt X (tgt := 42) dX7_cell_36 (by decide) (fun _ => ?_) (fun _ => ?_)
        · refine z_aload X (q := 0) dX7_cell_42 rfl ?_
          refine z_iload_n X (q := 3) dX7_cell_44 rfl rfl ?_
          refine z_iload_n X (q := 4) dX7_cell_45 rfl rfl ?_
          refine z_callV X hK (As := [vI a2, vI a3]) (ci := 3) rfl (by decide) (fun o => (kX3_put l Z  b x o _ _ _)) hk_X7_259 ⟨rfl, rfl⟩ hd_X3_put ⟨Nat.le_of_ble_eq_true rfl, Nat.le_of_ble_eq_true rfl⟩ ⟨Nat.le_of_ble_eq_true rfl, Nat.le_of_ble_eq_true rfl⟩ rfl rfl (Nat.le_of_ble_eq_true rfl) dX7_cell_46 (fun _ q4 _ => ?_)
          refine z_iconst X (v := (1 : Int32)) dX7_cell_49 (by decide) ?_
          subst hQ; exact z_iret X hlocks hr dX7_cell_50
        · refine z_bipush X (v := (-12 : Int32)) dX7_cell_39 (by decide) ?_
          subst hQ; exact z_iret X hlocks hr dX7_cell_41
    · refine z_bipush X (v := (-11 : Int32)) dX7_cell_23 (by decide) ?_
      subst hQ; exact z_iret X hlocks hr dX7_cell_25
  · refine z_bipush X (v := (-2 : Int32)) dX7_cell_12 (by decide) ?_
    subst hQ; exact z_iret X hlocks hr dX7_cell_14
theorem zw_392 : Cond.methodLink RX7 184 yJ6_bitCount_0f7a4 ∈ wsL_law := zr_5 _ (by decide +kernel)
theorem hk_X7_184 : ∀ w ∈ ([Cond.methodLink RX7 184 yJ6_bitCount_0f7a4, Cond.static yJ6_bitCount_0f7a4, Cond.initialized RJ6, Cond.code yJ6_bitCount_0f7a4 cJ6_bitCount_0f7a4 1 (some .int)] : List Cond), w ∈ wsL_law := List.forall_mem_cons.mpr ⟨zw_392, List.forall_mem_cons.mpr ⟨zw_148, List.forall_mem_cons.mpr ⟨zw_149, List.forall_mem_cons.mpr ⟨zw_150, fun _ h => absurd h List.not_mem_nil⟩⟩⟩⟩
theorem zw_393 : Cond.constant RX7 321 (1103515245) ∈ wsL_law := zr_46 _ (by decide +kernel)
theorem hc_X7_321 : Cond.constant RX7 321 (1103515245) ∈ wsL_law := zw_393
theorem zw_394 : Cond.fieldLink RX7 174 "WellGivesOther$Visit" "had" "I" ∈ wsL_law := zr_36 _ (by decide +kernel)
theorem hf_X7_174 : Cond.fieldLink RX7 174 "WellGivesOther$Visit" "had" "I" ∈ wsL_law := zw_394
theorem zw_395 : Cond.fieldLink RX7 315 "WellGivesOther$Visit" "day" "I" ∈ wsL_law := zr_44 _ (by decide +kernel)
theorem hf_X7_315 : Cond.fieldLink RX7 315 "WellGivesOther$Visit" "day" "I" ∈ wsL_law := zw_395
abbrev rmX7_hadByDrawing : Room := { frames := 6, cells := 0, slots := 0, locals := 160 }
def fX7_hadByDrawing_L5 : Nat → Option Nat → Int32 → Int32 → Int32 → zS → Option (Int32 × zS)
  | 0, _, _, _, _, _ => none
  | n + 1, y0, y2, y3, y4, st => if y2 ≤ y4 then ((zok spX st y0 6).bind fun o1 => (fJ6_bitCount_0f7a4 (st.2.1 o1 6) st).bind fun q2 => some (q2.1, q2.2)) else (zlet (((y3 * (1103515245 : Int32)) + (12345 : Int32))) fun v3 => if (12 : Int32) = 0 then none else (zok spX st y0 6).bind fun o8 => (fX6_askFor o8 ((1 : Int32) <<< ((((v3.toUInt32 >>> ((9 : Int32).toUInt32 &&& Int32.toUInt32 31)).toInt32) - ((v3.toUInt32 >>> ((9 : Int32).toUInt32 &&& Int32.toUInt32 31)).toInt32) / (12 : Int32) * (12 : Int32)) &&& 31)) st).bind fun q4 => (zok spX q4.2 y0 6).bind fun o5 => (zok spX q4.2 y0 6).bind fun o6 => zlet (zp q4.2 o6 9 ((q4.2.2.1 o5 9) + (1 : Int32))) fun st7 => (fX7_hadByDrawing_L5 n) y0 y2 v3 (y4 + (1 : Int32)) st7)
def fX7_hadByDrawing (a0 : Option Nat) (a1 : Int32) (a2 : Int32) (st : zS) : Option (Int32 × zS) :=
  fX7_hadByDrawing_L5 zF a0 a2 a1 (0 : Int32) st
set_option maxRecDepth 100000 in
set_option maxHeartbeats 4000000 in
theorem kX7_hadByDrawing (l : Launch) (Z : zZ) (b : Nat) (x : Option Nat) (a0 : Option Nat) (a1 : Int32) (a2 : Int32) (st : zS) : zC l Z spX b x yX7_hadByDrawing (.code yX7_hadByDrawing cX7_hadByDrawing 5 (some .int)) (rmX7_hadByDrawing) rI [vP a0, vI a1, vI a2] st (fX7_hadByDrawing a0 a1 a2 st) := by
  refine z_start (own := RX7) rfl (by decide +kernel) (Nat.le_of_ble_eq_true rfl) rfl (fun p e s m args below meth c res Q A X hK hr hlocks hQ => ?_)
  have J5 : ∀ (n5 : Nat) (y0 : Option Nat) (y2 : Int32) (y3 : Int32) (y4 : Int32) (st : zS), zs p l e (rmX7_hadByDrawing) s m args below meth c Q Z spX b x A 5 0 0 res (fX7_hadByDrawing_L5 n5 y0 y2 y3 y4 st) 5 [(0, vP y0), (2, vI y2), (3, vI y3), (4, vI y4)] [] st := by
    intro n5
    induction n5 with
    | zero => intros; exact z_none
    | succ n5 ih5 =>
      intro y0 y2 y3 y4 st
      rw [fX7_hadByDrawing_L5]
      refine z_iload X (q := 3) dX7_hadByDrawing_5 rfl ?_
      refine z_iload_n X (q := 1) dX7_hadByDrawing_7 rfl rfl ?_
      refine z_icmp_ge X (tgt := 51) dX7_hadByDrawing_8 (by decide) (fun _ => ?_) (fun _ => ?_)
      · refine z_aload_n X (q := 0) dX7_hadByDrawing_51 rfl rfl ?_
        refine z_geti X hK (N := 15) (ci := 6) (k := 6) rfl (by decide) inlX6 (by decide) hf_X7_174 rfl spX_X6 rfl dX7_hadByDrawing_52 (fun o1 _ => ?_)
        refine z_callS X hK (As := [vI (st.2.1 o1 6)]) (kJ6_bitCount_0f7a4 l Z spX b x _ _) hk_X7_184 ⟨rfl, rfl⟩ hd_J6_bitCount_0f7a4.2 ⟨Nat.le_of_ble_eq_true rfl, Nat.le_of_ble_eq_true rfl⟩ ⟨Nat.le_of_ble_eq_true rfl, Nat.le_of_ble_eq_true rfl⟩ rfl rfl (Nat.le_of_ble_eq_true rfl) dX7_hadByDrawing_55 (fun q2 => ?_)
        subst hQ; exact z_iret X hlocks hr dX7_hadByDrawing_58
      · refine z_iload_n X (q := 2) dX7_hadByDrawing_11 rfl rfl ?_
        refine z_ldcw X (v := (1103515245 : Int32)) (hc_X7_321) dX7_hadByDrawing_12 ?_
        refine z_imul X dX7_hadByDrawing_15 ?_
        refine z_sipush X (v := (12345 : Int32)) dX7_hadByDrawing_16 (by decide) ?_
        refine z_iadd X dX7_hadByDrawing_19 ?_
        refine z_name (fun v3 => ?_)
        refine z_istore_n X dX7_hadByDrawing_20 rfl (Nat.le_of_ble_eq_true rfl) rfl ?_
        refine z_aload_n X (q := 1) dX7_hadByDrawing_21 rfl rfl ?_
        refine z_iconst X (v := (1 : Int32)) dX7_hadByDrawing_22 (by decide) ?_
        refine z_iload_n X (q := 0) dX7_hadByDrawing_23 rfl rfl ?_
        refine z_bipush X (v := (9 : Int32)) dX7_hadByDrawing_24 (by decide) ?_
        refine z_iushr X dX7_hadByDrawing_26 ?_
        refine z_bipush X (v := (12 : Int32)) dX7_hadByDrawing_27 (by decide) ?_
        refine z_irem X dX7_hadByDrawing_29 (fun _ => ?_)
        refine z_ishl X dX7_hadByDrawing_30 ?_
        refine z_callV X hK (As := [vI ((1 : Int32) <<< ((((v3.toUInt32 >>> ((9 : Int32).toUInt32 &&& Int32.toUInt32 31)).toInt32) - ((v3.toUInt32 >>> ((9 : Int32).toUInt32 &&& Int32.toUInt32 31)).toInt32) / (12 : Int32) * (12 : Int32)) &&& 31))]) (ci := 6) rfl (by decide) (fun o => (kX6_askFor l Z  b x o _ _)) hk_X7_140 ⟨rfl, rfl⟩ hd_X6_askFor ⟨Nat.le_of_ble_eq_true rfl, Nat.le_of_ble_eq_true rfl⟩ ⟨Nat.le_of_ble_eq_true rfl, Nat.le_of_ble_eq_true rfl⟩ rfl rfl (Nat.le_of_ble_eq_true rfl) dX7_hadByDrawing_31 (fun _ q4 _ => ?_)
        refine z_pop X dX7_hadByDrawing_34 rfl ?_
        refine z_aload_n X (q := 1) dX7_hadByDrawing_35 rfl rfl ?_
        refine z_dup X dX7_hadByDrawing_36 rfl ?_
        refine z_geti X hK (N := 15) (ci := 6) (k := 9) rfl (by decide) inlX6 (by decide) hf_X7_315 rfl spX_X6 rfl dX7_hadByDrawing_37 (fun o5 _ => ?_)
        refine z_iconst X (v := (1 : Int32)) dX7_hadByDrawing_40 (by decide) ?_
        refine z_iadd X dX7_hadByDrawing_41 ?_
        refine z_puti X hK (N := 15) (ci := 6) (k := 9) rfl (by decide) inlX6 tyX6 tyX6_ok nmX6 (by decide) hf_X7_315 rfl rfl spX_X6 rfl (by decide +kernel) dX7_hadByDrawing_42 (fun o6 st7 _ => ?_)
        refine z_iinc X (q := 3) (y := y4 + (1 : Int32)) dX7_hadByDrawing_45 rfl rfl (Nat.le_of_ble_eq_true rfl) rfl ?_
        refine z_goto X (tgt := 5) dX7_hadByDrawing_48 (by decide) ?_
        exact z_sub [2, 3, 1, 0] (ih5 _ _ _ _ _) rfl
  rw [fX7_hadByDrawing]
  refine z_iload_n X (q := 1) dX7_hadByDrawing_0 rfl rfl ?_
  refine z_istore_n X dX7_hadByDrawing_1 rfl (Nat.le_of_ble_eq_true rfl) rfl ?_
  refine z_iconst X (v := (0 : Int32)) dX7_hadByDrawing_2 (by decide) ?_
  refine z_istore X dX7_hadByDrawing_3 (Nat.le_of_ble_eq_true rfl) rfl ?_
  exact z_sub [2, 4, 1, 0] (J5 _ _ _ _ _ _) rfl
abbrev rmX7_lowest : Room := { frames := 1, cells := 0, slots := 0, locals := 40 }
def fX7_lowest_j48 (y3 : Int32) (s0 : Int32) (st : zS) : Option (Int64 × zS) :=
  if y3 = 0 then (some ((s0.toInt64), st)) else (if y3 = 0 then none else some (((s0 / y3).toInt64), st))
def fX7_lowest_j39 (y0 : Int32) (y1 : Int32) (y2 : Int32) (y3 : Int32) (st : zS) : Option (Int64 × zS) :=
  if y2 = 0 then (fX7_lowest_j48 y3 y0 st) else (fX7_lowest_j48 y3 y1 st)
def fX7_lowest_L8 : Nat → Int32 → Int32 → Int32 → Int32 → Int32 → Int32 → zS → Option (Int64 × zS)
  | 0, _, _, _, _, _, _, _ => none
  | n + 1, y0, y1, y2, y3, y4, y5, st => if (64 : Int32) ≤ y5 then (fX7_lowest_j39 y0 y1 y2 y3 st) else (if y4 = 0 then (fX7_lowest_j39 y0 y1 y2 y3 st) else (if y4 = 0 then none else zlet ((y3 - y3 / y4 * y4)) fun v1 => (fX7_lowest_L8 n) y0 y1 y2 y4 v1 (y5 + (1 : Int32)) st))
def fX7_lowest (a0 : Int32) (a1 : Int32) (a2 : Int32) (st : zS) : Option (Int64 × zS) :=
  fX7_lowest_L8 zF a0 a1 a2 a1 a0 (0 : Int32) st
set_option maxRecDepth 100000 in
set_option maxHeartbeats 4000000 in
theorem kX7_lowest (l : Launch) (Z : zZ) (b : Nat) (x : Option Nat) (a0 : Int32) (a1 : Int32) (a2 : Int32) (st : zS) : zC l Z spX b x yX7_lowest (.code yX7_lowest cX7_lowest 7 (some .long)) (rmX7_lowest) rL [vI a0, vI a1, vI a2] st (fX7_lowest a0 a1 a2 st) := by
  refine z_start (own := RX7) rfl (by decide +kernel) (Nat.le_of_ble_eq_true rfl) rfl (fun p e s m args below meth c res Q A X hK hr hlocks hQ => ?_)
  have J48 : ∀ (y3 : Int32) (s0 : Int32) (st : zS), zs p l e (rmX7_lowest) s m args below meth c Q Z spX b x A 7 0 0 res (fX7_lowest_j48 y3 s0 st) 48 [(3, vI y3)] [vI s0] st := by
    intro y3 s0 st
    rw [fX7_lowest_j48]
    refine z_istore X dX7_lowest_48 (Nat.le_of_ble_eq_true rfl) rfl ?_
    refine z_iload_n X (q := 1) dX7_lowest_50 rfl rfl ?_
    refine z_if_ne X (tgt := 60) dX7_lowest_51 (by decide) (fun _ => ?_) (fun _ => ?_)
    · refine z_iload X (q := 0) dX7_lowest_60 rfl ?_
      refine z_iload_n X (q := 1) dX7_lowest_62 rfl rfl ?_
      refine z_idiv X dX7_lowest_63 (fun _ => ?_)
      refine z_i2l X dX7_lowest_64 ?_
      subst hQ; exact z_lret X hlocks hr dX7_lowest_65
    · refine z_iload X (q := 0) dX7_lowest_54 rfl ?_
      refine z_i2l X dX7_lowest_56 ?_
      refine z_goto X (tgt := 65) dX7_lowest_57 (by decide) ?_
      subst hQ; exact z_lret X hlocks hr dX7_lowest_65
  have J39 : ∀ (y0 : Int32) (y1 : Int32) (y2 : Int32) (y3 : Int32) (st : zS), zs p l e (rmX7_lowest) s m args below meth c Q Z spX b x A 7 0 0 res (fX7_lowest_j39 y0 y1 y2 y3 st) 39 [(0, vI y0), (1, vI y1), (2, vI y2), (3, vI y3)] [] st := by
    intro y0 y1 y2 y3 st
    rw [fX7_lowest_j39]
    refine z_iload_n X (q := 2) dX7_lowest_39 rfl rfl ?_
    refine z_if_ne X (tgt := 47) dX7_lowest_40 (by decide) (fun _ => ?_) (fun _ => ?_)
    · refine z_iload_n X (q := 1) dX7_lowest_47 rfl rfl ?_
      exact z_sub [3] (J48 _ _ _) rfl
    · refine z_iload_n X (q := 0) dX7_lowest_43 rfl rfl ?_
      refine z_goto X (tgt := 48) dX7_lowest_44 (by decide) ?_
      exact z_sub [3] (J48 _ _ _) rfl
  have J8 : ∀ (n8 : Nat) (y0 : Int32) (y1 : Int32) (y2 : Int32) (y3 : Int32) (y4 : Int32) (y5 : Int32) (st : zS), zs p l e (rmX7_lowest) s m args below meth c Q Z spX b x A 7 0 0 res (fX7_lowest_L8 n8 y0 y1 y2 y3 y4 y5 st) 8 [(0, vI y0), (1, vI y1), (2, vI y2), (3, vI y3), (4, vI y4), (5, vI y5)] [] st := by
    intro n8
    induction n8 with
    | zero => intros; exact z_none
    | succ n8 ih8 =>
      intro y0 y1 y2 y3 y4 y5 st
      rw [fX7_lowest_L8]
      refine z_iload X (q := 5) dX7_lowest_8 rfl ?_
      refine z_bipush X (v := (64 : Int32)) dX7_lowest_10 (by decide) ?_
      refine z_icmp_ge X (tgt := 39) dX7_lowest_12 (by decide) (fun _ => ?_) (fun _ => ?_)
      · exact z_sub [0, 1, 2, 3] (J39 _ _ _ _ _) rfl
      · refine z_iload X (q := 4) dX7_lowest_15 rfl ?_
        refine z_if_eq X (tgt := 39) dX7_lowest_17 (by decide) (fun _ => ?_) (fun _ => ?_)
        · exact z_sub [0, 1, 2, 3] (J39 _ _ _ _ _) rfl
        · refine z_iload_n X (q := 3) dX7_lowest_20 rfl rfl ?_
          refine z_iload X (q := 4) dX7_lowest_21 rfl ?_
          refine z_irem X dX7_lowest_23 (fun _ => ?_)
          refine z_name (fun v1 => ?_)
          refine z_istore X dX7_lowest_24 (Nat.le_of_ble_eq_true rfl) rfl ?_
          refine z_iload X (q := 5) dX7_lowest_26 rfl ?_
          refine z_istore_n X dX7_lowest_28 rfl (Nat.le_of_ble_eq_true rfl) rfl ?_
          refine z_iload X (q := 1) dX7_lowest_29 rfl ?_
          refine z_istore X dX7_lowest_31 (Nat.le_of_ble_eq_true rfl) rfl ?_
          refine z_iinc X (q := 6) (y := y5 + (1 : Int32)) dX7_lowest_33 rfl rfl (Nat.le_of_ble_eq_true rfl) rfl ?_
          refine z_goto X (tgt := 8) dX7_lowest_36 (by decide) ?_
          exact z_sub [4, 5, 6, 2, 1, 0] (ih8 _ _ _ _ _ _ _) rfl
  rw [fX7_lowest]
  refine z_iload_n X (q := 1) dX7_lowest_0 rfl rfl ?_
  refine z_istore_n X dX7_lowest_1 rfl (Nat.le_of_ble_eq_true rfl) rfl ?_
  refine z_iload_n X (q := 1) dX7_lowest_2 rfl rfl ?_
  refine z_istore X dX7_lowest_3 (Nat.le_of_ble_eq_true rfl) rfl ?_
  refine z_iconst X (v := (0 : Int32)) dX7_lowest_5 (by decide) ?_
  refine z_istore X dX7_lowest_6 (Nat.le_of_ble_eq_true rfl) rfl ?_
  exact z_sub [3, 4, 5, 2, 1, 0] (J8 _ _ _ _ _ _ _ _) rfl
theorem zw_396 : Cond.methodLink RX7 224 yX7_lowest ∈ wsL_law := zr_42 _ (by decide +kernel)
theorem zw_397 : Cond.static yX7_lowest ∈ wsL_law := zr_42 _ (by decide +kernel)
theorem zw_398 : Cond.code yX7_lowest cX7_lowest 7 (some .long) ∈ wsL_law := zr_42 _ (by decide +kernel)
theorem hk_X7_224 : ∀ w ∈ ([Cond.methodLink RX7 224 yX7_lowest, Cond.static yX7_lowest, Cond.initialized RX7, Cond.code yX7_lowest cX7_lowest 7 (some .long)] : List Cond), w ∈ wsL_law := List.forall_mem_cons.mpr ⟨zw_396, List.forall_mem_cons.mpr ⟨zw_397, List.forall_mem_cons.mpr ⟨zw_322, List.forall_mem_cons.mpr ⟨zw_398, fun _ h => absurd h List.not_mem_nil⟩⟩⟩⟩
theorem zw_399 : Cond.methodLink RX7 262 yX7_hadByDrawing ∈ wsL_law := zr_46 _ (by decide +kernel)
theorem zw_400 : Cond.static yX7_hadByDrawing ∈ wsL_law := zr_46 _ (by decide +kernel)
theorem zw_401 : Cond.code yX7_hadByDrawing cX7_hadByDrawing 5 (some .int) ∈ wsL_law := zr_46 _ (by decide +kernel)
theorem hk_X7_262 : ∀ w ∈ ([Cond.methodLink RX7 262 yX7_hadByDrawing, Cond.static yX7_hadByDrawing, Cond.initialized RX7, Cond.code yX7_hadByDrawing cX7_hadByDrawing 5 (some .int)] : List Cond), w ∈ wsL_law := List.forall_mem_cons.mpr ⟨zw_399, List.forall_mem_cons.mpr ⟨zw_400, List.forall_mem_cons.mpr ⟨zw_322, List.forall_mem_cons.mpr ⟨zw_401, fun _ h => absurd h List.not_mem_nil⟩⟩⟩⟩
theorem hd_X7_hadByDrawing : yX7_hadByDrawing.cls = RX7 ∧ yX7_hadByDrawing.cls ≠ "java/lang/invoke/MethodHandle" ∧ yX7_hadByDrawing.cls ≠ "java/lang/invoke/VarHandle" ∧ (parseMethodDescriptor yX7_hadByDrawing.desc).map (fun d => d.parameters.length) = some 3 := by decide +kernel
theorem hd_X7_lowest : yX7_lowest.cls = RX7 ∧ yX7_lowest.cls ≠ "java/lang/invoke/MethodHandle" ∧ yX7_lowest.cls ≠ "java/lang/invoke/VarHandle" ∧ (parseMethodDescriptor yX7_lowest.desc).map (fun d => d.parameters.length) = some 3 := by decide +kernel
theorem zw_402 : Cond.constantLong RX7 221 (-4611686018427387904) ∈ wsL_law := zr_42 _ (by decide +kernel)
theorem hc_X7_221 : Cond.constantLong RX7 221 (-4611686018427387904) ∈ wsL_law := zw_402
abbrev rmX7_chance : Room := { frames := 7, cells := 0, slots := 0, locals := 184 }
def fX7_chance_j93 (this : Nat) (k56 : Int32 → Int32 → Int32 → Int32 → Int32 → Int32 → Int32 → zS → Option (Int64 × zS)) (y1 : Int32) (y2 : Int32) (y3 : Int32) (y4 : Int32) (y5 : Int32) (y6 : Int32) (y7 : Int32) (st : zS) : Option (Int64 × zS) :=
  k56 y1 y2 y3 y4 y5 y6 (y7 + (1 : Int32)) st
def fX7_chance_L56 (this : Nat) : Nat → Int32 → Int32 → Int32 → Int32 → Int32 → Int32 → Int32 → zS → Option (Int64 × zS)
  | 0, _, _, _, _, _, _, _, _ => none
  | n + 1, y1, y2, y3, y4, y5, y6, y7, st => if y2 ≤ y7 then ((fX7_lowest y6 y2 y5 st).bind fun q1 => some (q1.1, q1.2)) else ((zok spX st (some this) 7).bind fun o4 => (fX7_visitOf o4 y3 st).bind fun q2 => if q2.1 = none then (fX7_chance_j93 this (fX7_chance_L56 this n) y1 y2 y3 y4 y5 y6 y7 q2.2) else ((fX7_hadByDrawing q2.1 (y1 + y7) (6 : Int32) q2.2).bind fun q3 => if q3.1 < y4 then (fX7_chance_j93 this (fX7_chance_L56 this n) y1 y2 y3 y4 y5 y6 y7 q3.2) else (fX7_chance_j93 this (fX7_chance_L56 this n) y1 y2 y3 y4 y5 (y6 + (1 : Int32)) y7 q3.2)))
def fX7_chance (this : Nat) (a1 : Int32) (a2 : Int32) (a3 : Int32) (a4 : Int32) (a5 : Int32) (st : zS) : Option (Int64 × zS) :=
  if a2 < (1 : Int32) then (some ((-4611686018427387904 : Int64), st)) else (if (20 : Int32) < a2 then (some ((-4611686018427387904 : Int64), st)) else ((zok spX st (some this) 7).bind fun o6 => (fX7_seat o6 a3 st).bind fun q5 => if q5.1 = none then (some ((-4611686018427387904 : Int64), q5.2)) else (if a4 < 0 then (some ((-4611686018427387904 : Int64), q5.2)) else (if (12 : Int32) < a4 then (some ((-4611686018427387904 : Int64), q5.2)) else (if a5 < 0 then (some ((-4611686018427387904 : Int64), q5.2)) else (if a5 ≤ (1 : Int32) then (fX7_chance_L56 this zF a1 a2 a3 a4 a5 (0 : Int32) (0 : Int32) q5.2) else (some ((-4611686018427387904 : Int64), q5.2))))))))
set_option maxRecDepth 100000 in
set_option maxHeartbeats 4000000 in
theorem kX7_chance (l : Launch) (Z : zZ) (b : Nat) (x : Option Nat) (this : Nat) (a1 : Int32) (a2 : Int32) (a3 : Int32) (a4 : Int32) (a5 : Int32) (st : zS) : zC l Z spX b x yX7_chance (.code yX7_chance cX7_chance 9 (some .long)) (rmX7_chance) rL [vP (some this), vI a1, vI a2, vI a3, vI a4, vI a5] st (fX7_chance this a1 a2 a3 a4 a5 st) := by
  refine z_start (own := RX7) rfl (by decide +kernel) (Nat.le_of_ble_eq_true rfl) rfl (fun p e s m args below meth c res Q A X hK hr hlocks hQ => ?_)
  have J56 : ∀ (n56 : Nat) (y1 : Int32) (y2 : Int32) (y3 : Int32) (y4 : Int32) (y5 : Int32) (y6 : Int32) (y7 : Int32) (st : zS), zs p l e (rmX7_chance) s m args below meth c Q Z spX b x A 9 0 0 res (fX7_chance_L56 this n56 y1 y2 y3 y4 y5 y6 y7 st) 56 [(0, vP (some this)), (1, vI y1), (2, vI y2), (3, vI y3), (4, vI y4), (5, vI y5), (6, vI y6), (7, vI y7)] [] st := by
    intro n56
    induction n56 with
    | zero => intros; exact z_none
    | succ n56 ih56 =>
      have J93 : ∀ (y1 : Int32) (y2 : Int32) (y3 : Int32) (y4 : Int32) (y5 : Int32) (y6 : Int32) (y7 : Int32) (st : zS), zs p l e (rmX7_chance) s m args below meth c Q Z spX b x A 9 0 0 res (fX7_chance_j93 this (fX7_chance_L56 this n56) y1 y2 y3 y4 y5 y6 y7 st) 93 [(0, vP (some this)), (1, vI y1), (2, vI y2), (3, vI y3), (4, vI y4), (5, vI y5), (6, vI y6), (7, vI y7)] [] st := by
        intro y1 y2 y3 y4 y5 y6 y7 st
        rw [fX7_chance_j93]
        refine z_iinc X (q := 7) (y := y7 + (1 : Int32)) dX7_chance_93 rfl rfl (Nat.le_of_ble_eq_true rfl) rfl ?_
        refine z_goto X (tgt := 56) dX7_chance_96 (by decide) ?_
        exact z_sub [1, 2, 3, 4, 5, 6, 7, 0] (ih56 _ _ _ _ _ _ _ _) rfl
      intro y1 y2 y3 y4 y5 y6 y7 st
      rw [fX7_chance_L56]
      refine z_iload X (q := 7) dX7_chance_56 rfl ?_
      refine z_iload_n X (q := 2) dX7_chance_58 rfl rfl ?_
      refine z_icmp_ge X (tgt := 99) dX7_chance_59 (by decide) (fun _ => ?_) (fun _ => ?_)
      · refine z_iload X (q := 6) dX7_chance_99 rfl ?_
        refine z_iload_n X (q := 2) dX7_chance_101 rfl rfl ?_
        refine z_iload X (q := 5) dX7_chance_102 rfl ?_
        refine z_callS X hK (As := [vI y6, vI y2, vI y5]) (kX7_lowest l Z  b x _ _ _ _) hk_X7_224 ⟨rfl, rfl⟩ hd_X7_lowest.2 ⟨Nat.le_of_ble_eq_true rfl, Nat.le_of_ble_eq_true rfl⟩ ⟨Nat.le_of_ble_eq_true rfl, Nat.le_of_ble_eq_true rfl⟩ rfl rfl (Nat.le_of_ble_eq_true rfl) dX7_chance_104 (fun q1 => ?_)
        subst hQ; exact z_lret X hlocks hr dX7_chance_107
      · refine z_aload_n X (q := 0) dX7_chance_62 rfl rfl ?_
        refine z_iload_n X (q := 3) dX7_chance_63 rfl rfl ?_
        refine z_callV X hK (As := [vI y3]) (ci := 7) rfl (by decide) (fun o => (kX7_visitOf l Z  b x o _ _)) hk_X7_108 ⟨rfl, rfl⟩ hd_X7_visitOf ⟨Nat.le_of_ble_eq_true rfl, Nat.le_of_ble_eq_true rfl⟩ ⟨Nat.le_of_ble_eq_true rfl, Nat.le_of_ble_eq_true rfl⟩ rfl rfl (Nat.le_of_ble_eq_true rfl) dX7_chance_64 (fun _ q2 _ => ?_)
        refine z_astore X dX7_chance_67 (Nat.le_of_ble_eq_true rfl) rfl ?_
        refine z_aload X (q := 0) dX7_chance_69 rfl ?_
        refine z_ifnull X (tgt := 93) dX7_chance_71 (by decide) (fun _ => ?_) (fun _ => ?_)
        · exact z_sub [1, 2, 3, 4, 5, 6, 7, 8] (J93 _ _ _ _ _ _ _ _) rfl
        · refine z_aload X (q := 0) dX7_chance_74 rfl ?_
          refine z_iload_n X (q := 2) dX7_chance_76 rfl rfl ?_
          refine z_iload X (q := 8) dX7_chance_77 rfl ?_
          refine z_iadd X dX7_chance_79 ?_
          refine z_bipush X (v := (6 : Int32)) dX7_chance_80 (by decide) ?_
          refine z_callS X hK (As := [vP q2.1, vI (y1 + y7), vI (6 : Int32)]) (kX7_hadByDrawing l Z  b x _ _ _ _) hk_X7_262 ⟨rfl, rfl⟩ hd_X7_hadByDrawing.2 ⟨Nat.le_of_ble_eq_true rfl, Nat.le_of_ble_eq_true rfl⟩ ⟨Nat.le_of_ble_eq_true rfl, Nat.le_of_ble_eq_true rfl⟩ rfl rfl (Nat.le_of_ble_eq_true rfl) dX7_chance_82 (fun q3 => ?_)
          refine z_iload X (q := 5) dX7_chance_85 rfl ?_
          refine z_icmp_lt X (tgt := 93) dX7_chance_87 (by decide) (fun _ => ?_) (fun _ => ?_)
          · exact z_sub [1, 2, 3, 4, 5, 6, 7, 8] (J93 _ _ _ _ _ _ _ _) rfl
          · refine z_iinc X (q := 7) (y := y6 + (1 : Int32)) dX7_chance_90 rfl rfl (Nat.le_of_ble_eq_true rfl) rfl ?_
            exact z_sub [2, 3, 4, 5, 6, 7, 0, 8] (J93 _ _ _ _ _ _ _ _) rfl
  rw [fX7_chance]
  refine z_iload_n X (q := 2) dX7_chance_0 rfl rfl ?_
  refine z_iconst X (v := (1 : Int32)) dX7_chance_1 (by decide) ?_
  refine z_icmp_lt X (tgt := 19) dX7_chance_2 (by decide) (fun _ => ?_) (fun _ => ?_)
  · refine z_ldc2 X (v := (-4611686018427387904 : Int64)) (hc_X7_221) dX7_chance_19 ?_
    subst hQ; exact z_lret X hlocks hr dX7_chance_22
  · refine z_iload_n X (q := 2) dX7_chance_5 rfl rfl ?_
    refine z_bipush X (v := (20 : Int32)) dX7_chance_6 (by decide) ?_
    refine z_icmp_gt X (tgt := 19) dX7_chance_8 (by decide) (fun _ => ?_) (fun _ => ?_)
    · refine z_ldc2 X (v := (-4611686018427387904 : Int64)) (hc_X7_221) dX7_chance_19 ?_
      subst hQ; exact z_lret X hlocks hr dX7_chance_22
    · refine z_aload_n X (q := 0) dX7_chance_11 rfl rfl ?_
      refine z_iload_n X (q := 3) dX7_chance_12 rfl rfl ?_
      refine z_callV X hK (As := [vI a3]) (ci := 7) rfl (by decide) (fun o => (kX7_seat l Z  b x o _ _)) hk_X7_88 ⟨rfl, rfl⟩ hd_X7_seat ⟨Nat.le_of_ble_eq_true rfl, Nat.le_of_ble_eq_true rfl⟩ ⟨Nat.le_of_ble_eq_true rfl, Nat.le_of_ble_eq_true rfl⟩ rfl rfl (Nat.le_of_ble_eq_true rfl) dX7_chance_13 (fun _ q5 _ => ?_)
      refine z_ifnonnull X (tgt := 23) dX7_chance_16 (by decide) (fun _ => ?_) (fun _ => ?_)
      · refine z_iload X (q := 4) dX7_chance_23 rfl ?_
        refine z_if_lt X (tgt := 46) dX7_chance_25 (by decide) (fun _ => ?_) (fun _ => ?_)
        · refine z_ldc2 X (v := (-4611686018427387904 : Int64)) (hc_X7_221) dX7_chance_46 ?_
          subst hQ; exact z_lret X hlocks hr dX7_chance_49
        · refine z_iload X (q := 4) dX7_chance_28 rfl ?_
          refine z_bipush X (v := (12 : Int32)) dX7_chance_30 (by decide) ?_
          refine z_icmp_gt X (tgt := 46) dX7_chance_32 (by decide) (fun _ => ?_) (fun _ => ?_)
          · refine z_ldc2 X (v := (-4611686018427387904 : Int64)) (hc_X7_221) dX7_chance_46 ?_
            subst hQ; exact z_lret X hlocks hr dX7_chance_49
          · refine z_iload X (q := 5) dX7_chance_35 rfl ?_
            refine z_if_lt X (tgt := 46) dX7_chance_37 (by decide) (fun _ => ?_) (fun _ => ?_)
            · refine z_ldc2 X (v := (-4611686018427387904 : Int64)) (hc_X7_221) dX7_chance_46 ?_
              subst hQ; exact z_lret X hlocks hr dX7_chance_49
            · refine z_iload X (q := 5) dX7_chance_40 rfl ?_
              refine z_iconst X (v := (1 : Int32)) dX7_chance_42 (by decide) ?_
              refine z_icmp_le X (tgt := 50) dX7_chance_43 (by decide) (fun _ => ?_) (fun _ => ?_)
              · refine z_iconst X (v := (0 : Int32)) dX7_chance_50 (by decide) ?_
                refine z_istore X dX7_chance_51 (Nat.le_of_ble_eq_true rfl) rfl ?_
                refine z_iconst X (v := (0 : Int32)) dX7_chance_53 (by decide) ?_
                refine z_istore X dX7_chance_54 (Nat.le_of_ble_eq_true rfl) rfl ?_
                exact z_sub [2, 3, 4, 5, 6, 7, 1, 0] (J56 _ _ _ _ _ _ _ _ _) rfl
              · refine z_ldc2 X (v := (-4611686018427387904 : Int64)) (hc_X7_221) dX7_chance_46 ?_
                subst hQ; exact z_lret X hlocks hr dX7_chance_49
      · refine z_ldc2 X (v := (-4611686018427387904 : Int64)) (hc_X7_221) dX7_chance_19 ?_
        subst hQ; exact z_lret X hlocks hr dX7_chance_22
theorem zw_403 : Cond.fieldLink RX7 13 "WellGivesOther" "fewSets" "[I" ∈ wsL_law := zr_1 _ (by decide +kernel)
theorem hf_X7_13 : Cond.fieldLink RX7 13 "WellGivesOther" "fewSets" "[I" ∈ wsL_law := zw_403
abbrev rmX7_cheapestSet : Room := { frames := 5, cells := 0, slots := 0, locals := 136 }
def fX7_cheapestSet_j73 (this : Nat) (k8 : Option Nat → Int32 → Int32 → Int32 → Int32 → zS → Option (Int32 × zS)) (y1 : Option Nat) (y2 : Int32) (y3 : Int32) (y4 : Int32) (y5 : Int32) (st : zS) : Option (Int32 × zS) :=
  k8 y1 y2 y3 y4 (y5 + (1 : Int32)) st
def fX7_cheapestSet_j61 (this : Nat) (k8 : Option Nat → Int32 → Int32 → Int32 → Int32 → zS → Option (Int32 × zS)) (y1 : Option Nat) (y2 : Int32) (y5 : Int32) (y6 : Int32) (st : zS) : Option (Int32 × zS) :=
  (zok spX st (some this) 7).bind fun o1 => (zok spX st (st.2.2.2 o1 1) 9).bind fun o2 => (zix spX o2 y5).bind fun j3 => zlet ((st.2.1 o2 j3)) fun v4 => fX7_cheapestSet_j73 this k8 y1 y2 v4 y6 y5 st
def fX7_cheapestSet_L8 (this : Nat) : Nat → Option Nat → Int32 → Int32 → Int32 → Int32 → zS → Option (Int32 × zS)
  | 0, _, _, _, _, _, _ => none
  | n + 1, y1, y2, y3, y4, y5, st => (zok spX st (some this) 7).bind fun o5 => (zla spX st (st.2.2.2 o5 1)).bind fun o6 => if (Int32.ofNat (spX o6).2) ≤ y5 then (some (y3, st)) else ((zok spX st (some this) 7).bind fun o7 => (zok spX st (st.2.2.2 o7 1) 9).bind fun o8 => (zix spX o8 y5).bind fun j9 => (zok spX st y1 6).bind fun o17 => (fX6_givenBy o17 (st.2.1 o8 j9) st).bind fun q10 => if q10.1 = y2 then ((zok spX q10.2 (some this) 7).bind fun o11 => (zok spX q10.2 (q10.2.2.2.2 o11 1) 9).bind fun o12 => (zix spX o12 y5).bind fun j13 => (zok spX q10.2 y1 6).bind fun o16 => (fX6_costOf o16 (q10.2.2.1 o12 j13) q10.2).bind fun q14 => zlet (q14.1) fun v15 => if y3 = (-1 : Int32) then (fX7_cheapestSet_j61 this (fX7_cheapestSet_L8 this n) y1 y2 y5 v15 q14.2) else (if y4 ≤ v15 then (fX7_cheapestSet_j73 this (fX7_cheapestSet_L8 this n) y1 y2 y3 y4 y5 q14.2) else (fX7_cheapestSet_j61 this (fX7_cheapestSet_L8 this n) y1 y2 y5 v15 q14.2))) else (fX7_cheapestSet_j73 this (fX7_cheapestSet_L8 this n) y1 y2 y3 y4 y5 q10.2))
def fX7_cheapestSet (this : Nat) (a1 : Option Nat) (a2 : Int32) (st : zS) : Option (Int32 × zS) :=
  fX7_cheapestSet_L8 this zF a1 a2 (-1 : Int32) (0 : Int32) (0 : Int32) st
set_option maxRecDepth 100000 in
set_option maxHeartbeats 4000000 in
theorem kX7_cheapestSet (l : Launch) (Z : zZ) (b : Nat) (x : Option Nat) (this : Nat) (a1 : Option Nat) (a2 : Int32) (st : zS) : zC l Z spX b x yX7_cheapestSet (.code yX7_cheapestSet cX7_cheapestSet 7 (some .int)) (rmX7_cheapestSet) rI [vP (some this), vP a1, vI a2] st (fX7_cheapestSet this a1 a2 st) := by
  refine z_start (own := RX7) rfl (by decide +kernel) (Nat.le_of_ble_eq_true rfl) rfl (fun p e s m args below meth c res Q A X hK hr hlocks hQ => ?_)
  have J8 : ∀ (n8 : Nat) (y1 : Option Nat) (y2 : Int32) (y3 : Int32) (y4 : Int32) (y5 : Int32) (st : zS), zs p l e (rmX7_cheapestSet) s m args below meth c Q Z spX b x A 7 0 0 res (fX7_cheapestSet_L8 this n8 y1 y2 y3 y4 y5 st) 8 [(0, vP (some this)), (1, vP y1), (2, vI y2), (3, vI y3), (4, vI y4), (5, vI y5)] [] st := by
    intro n8
    induction n8 with
    | zero => intros; exact z_none
    | succ n8 ih8 =>
      have J73 : ∀ (y1 : Option Nat) (y2 : Int32) (y3 : Int32) (y4 : Int32) (y5 : Int32) (st : zS), zs p l e (rmX7_cheapestSet) s m args below meth c Q Z spX b x A 7 0 0 res (fX7_cheapestSet_j73 this (fX7_cheapestSet_L8 this n8) y1 y2 y3 y4 y5 st) 73 [(0, vP (some this)), (1, vP y1), (2, vI y2), (3, vI y3), (4, vI y4), (5, vI y5)] [] st := by
        intro y1 y2 y3 y4 y5 st
        rw [fX7_cheapestSet_j73]
        refine z_iinc X (q := 5) (y := y5 + (1 : Int32)) dX7_cheapestSet_73 rfl rfl (Nat.le_of_ble_eq_true rfl) rfl ?_
        refine z_goto X (tgt := 8) dX7_cheapestSet_76 (by decide) ?_
        exact z_sub [1, 2, 3, 4, 5, 0] (ih8 _ _ _ _ _ _) rfl
      have J61 : ∀ (y1 : Option Nat) (y2 : Int32) (y5 : Int32) (y6 : Int32) (st : zS), zs p l e (rmX7_cheapestSet) s m args below meth c Q Z spX b x A 7 0 0 res (fX7_cheapestSet_j61 this (fX7_cheapestSet_L8 this n8) y1 y2 y5 y6 st) 61 [(0, vP (some this)), (1, vP y1), (2, vI y2), (5, vI y5), (6, vI y6)] [] st := by
        intro y1 y2 y5 y6 st
        rw [fX7_cheapestSet_j61]
        refine z_aload_n X (q := 0) dX7_cheapestSet_61 rfl rfl ?_
        refine z_getr X hK (N := 14) (ci := 7) (k := 1) rfl (by decide) inlX7 (by decide) hf_X7_13 rfl spX_X7 rfl dX7_cheapestSet_62 (fun o1 _ => ?_)
        refine z_iload X (q := 3) dX7_cheapestSet_65 rfl ?_
        refine z_iald X hK dX7_cheapestSet_67 (fun o2 j3 _ _ => ?_)
        refine z_name (fun v4 => ?_)
        refine z_istore_n X dX7_cheapestSet_68 rfl (Nat.le_of_ble_eq_true rfl) rfl ?_
        refine z_iload X (q := 5) dX7_cheapestSet_69 rfl ?_
        refine z_istore X dX7_cheapestSet_71 (Nat.le_of_ble_eq_true rfl) rfl ?_
        exact z_sub [2, 3, 4, 1, 0, 5] (J73 _ _ _ _ _ _) rfl
      intro y1 y2 y3 y4 y5 st
      rw [fX7_cheapestSet_L8]
      refine z_iload X (q := 5) dX7_cheapestSet_8 rfl ?_
      refine z_aload_n X (q := 0) dX7_cheapestSet_10 rfl rfl ?_
      refine z_getr X hK (N := 14) (ci := 7) (k := 1) rfl (by decide) inlX7 (by decide) hf_X7_13 rfl spX_X7 rfl dX7_cheapestSet_11 (fun o5 _ => ?_)
      refine z_alen X hK dX7_cheapestSet_14 spX_14 (fun o6 _ => ?_)
      refine z_icmp_ge X (tgt := 79) dX7_cheapestSet_15 (by decide) (fun _ => ?_) (fun _ => ?_)
      · refine z_iload_n X (q := 3) dX7_cheapestSet_79 rfl rfl ?_
        subst hQ; exact z_iret X hlocks hr dX7_cheapestSet_80
      · refine z_aload_n X (q := 1) dX7_cheapestSet_18 rfl rfl ?_
        refine z_aload_n X (q := 0) dX7_cheapestSet_19 rfl rfl ?_
        refine z_getr X hK (N := 14) (ci := 7) (k := 1) rfl (by decide) inlX7 (by decide) hf_X7_13 rfl spX_X7 rfl dX7_cheapestSet_20 (fun o7 _ => ?_)
        refine z_iload X (q := 5) dX7_cheapestSet_23 rfl ?_
        refine z_iald X hK dX7_cheapestSet_25 (fun o8 j9 _ _ => ?_)
        refine z_callV X hK (As := [vI (st.2.1 o8 j9)]) (ci := 6) rfl (by decide) (fun o => (kX6_givenBy l Z  b x o _ _)) hk_X7_118 ⟨rfl, rfl⟩ hd_X6_givenBy ⟨Nat.le_of_ble_eq_true rfl, Nat.le_of_ble_eq_true rfl⟩ ⟨Nat.le_of_ble_eq_true rfl, Nat.le_of_ble_eq_true rfl⟩ rfl rfl (Nat.le_of_ble_eq_true rfl) dX7_cheapestSet_26 (fun _ q10 _ => ?_)
        refine z_iload_n X (q := 2) dX7_cheapestSet_29 rfl rfl ?_
        refine z_icmp_eq X (tgt := 36) dX7_cheapestSet_30 (by decide) (fun _ => ?_) (fun _ => ?_)
        · refine z_aload_n X (q := 1) dX7_cheapestSet_36 rfl rfl ?_
          refine z_aload_n X (q := 0) dX7_cheapestSet_37 rfl rfl ?_
          refine z_getr X hK (N := 14) (ci := 7) (k := 1) rfl (by decide) inlX7 (by decide) hf_X7_13 rfl spX_X7 rfl dX7_cheapestSet_38 (fun o11 _ => ?_)
          refine z_iload X (q := 5) dX7_cheapestSet_41 rfl ?_
          refine z_iald X hK dX7_cheapestSet_43 (fun o12 j13 _ _ => ?_)
          refine z_callV X hK (As := [vI (q10.2.2.1 o12 j13)]) (ci := 6) rfl (by decide) (fun o => (kX6_costOf l Z  b x o _ _)) hk_X7_124 ⟨rfl, rfl⟩ hd_X6_costOf ⟨Nat.le_of_ble_eq_true rfl, Nat.le_of_ble_eq_true rfl⟩ ⟨Nat.le_of_ble_eq_true rfl, Nat.le_of_ble_eq_true rfl⟩ rfl rfl (Nat.le_of_ble_eq_true rfl) dX7_cheapestSet_44 (fun _ q14 _ => ?_)
          refine z_name (fun v15 => ?_)
          refine z_istore X dX7_cheapestSet_47 (Nat.le_of_ble_eq_true rfl) rfl ?_
          refine z_iload_n X (q := 4) dX7_cheapestSet_49 rfl rfl ?_
          refine z_iconst X (v := (-1 : Int32)) dX7_cheapestSet_50 (by decide) ?_
          refine z_icmp_eq X (tgt := 61) dX7_cheapestSet_51 (by decide) (fun _ => ?_) (fun _ => ?_)
          · exact z_sub [1, 2, 3, 6, 0] (J61 _ _ _ _ _) rfl
          · refine z_iload X (q := 0) dX7_cheapestSet_54 rfl ?_
            refine z_iload X (q := 5) dX7_cheapestSet_56 rfl ?_
            refine z_icmp_ge X (tgt := 73) dX7_cheapestSet_58 (by decide) (fun _ => ?_) (fun _ => ?_)
            · exact z_sub [1, 2, 3, 4, 5, 6] (J73 _ _ _ _ _ _) rfl
            · exact z_sub [1, 2, 3, 6, 0] (J61 _ _ _ _ _) rfl
        · refine z_goto X (tgt := 73) dX7_cheapestSet_33 (by decide) ?_
          exact z_sub [0, 1, 2, 3, 4, 5] (J73 _ _ _ _ _ _) rfl
  rw [fX7_cheapestSet]
  refine z_iconst X (v := (-1 : Int32)) dX7_cheapestSet_0 (by decide) ?_
  refine z_istore_n X dX7_cheapestSet_1 rfl (Nat.le_of_ble_eq_true rfl) rfl ?_
  refine z_iconst X (v := (0 : Int32)) dX7_cheapestSet_2 (by decide) ?_
  refine z_istore X dX7_cheapestSet_3 (Nat.le_of_ble_eq_true rfl) rfl ?_
  refine z_iconst X (v := (0 : Int32)) dX7_cheapestSet_5 (by decide) ?_
  refine z_istore X dX7_cheapestSet_6 (Nat.le_of_ble_eq_true rfl) rfl ?_
  exact z_sub [3, 4, 5, 2, 1, 0] (J8 _ _ _ _ _ _ _) rfl
