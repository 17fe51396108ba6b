theorem zw_82 : Cond.fieldLink RX5 9 "WellGivesOther$Tokens" "sorts" "[I" ∈ wsL_law := zr_3 _ (by decide +kernel)
theorem hf_X5_9 : Cond.fieldLink RX5 9 "WellGivesOther$Tokens" "sorts" "[I" ∈ wsL_law := zw_82
abbrev rmX5_sortOf : Room := { frames := 1, cells := 0, slots := 0, locals := 40 }
def fX5_sortOf_j22 (this : Nat) (st : zS) : Option (Int32 × zS) :=
  some ((8 : Int32), st)
def fX5_sortOf (this : Nat) (a1 : Int32) (st : zS) : Option (Int32 × zS) :=
  if a1 < 0 then (fX5_sortOf_j22 this st) else ((zok spX st (some this) 5).bind fun o1 => (zla spX st (st.2.2.2 o1 1)).bind fun o2 => if (Int32.ofNat (spX o2).2) ≤ a1 then (fX5_sortOf_j22 this st) else ((zok spX st (some this) 5).bind fun o3 => (zok spX st (st.2.2.2 o3 1) 9).bind fun o4 => (zix spX o4 a1).bind fun j5 => some ((st.2.1 o4 j5), st)))
set_option maxRecDepth 100000 in
set_option maxHeartbeats 4000000 in
theorem kX5_sortOf (l : Launch) (Z : zZ) (b : Nat) (x : Option Nat) (this : Nat) (a1 : Int32) (st : zS) : zC l Z spX b x yX5_sortOf (.code yX5_sortOf cX5_sortOf 2 (some .int)) (rmX5_sortOf) rI [vP (some this), vI a1] st (fX5_sortOf this a1 st) := by
  refine z_start (own := RX5) rfl (by decide +kernel) (Nat.le_of_ble_eq_true rfl) rfl (fun p e s m args below meth c res Q A X hK hr hlocks hQ => ?_)
  have J22 : ∀ (st : zS), zs p l e (rmX5_sortOf) s m args below meth c Q Z spX b x A 2 0 0 res (fX5_sortOf_j22 this st) 22 [] [] st := by
    intro  st
    rw [fX5_sortOf_j22]
    refine z_bipush X (v := (8 : Int32)) dX5_sortOf_22 (by decide) ?_
    subst hQ; exact z_iret X hlocks hr dX5_sortOf_24
  rw [fX5_sortOf]
  refine z_iload_n X (q := 1) dX5_sortOf_0 rfl rfl ?_
  refine z_if_lt X (tgt := 22) dX5_sortOf_1 (by decide) (fun _ => ?_) (fun _ => ?_)
  · exact z_sub [] (J22  _) rfl
  · refine z_iload_n X (q := 1) dX5_sortOf_4 rfl rfl ?_
    refine z_aload_n X (q := 0) dX5_sortOf_5 rfl rfl ?_
    refine z_getr X hK (N := 8) (ci := 5) (k := 1) rfl (by decide) inlX5 (by decide) hf_X5_9 rfl spX_X5 rfl dX5_sortOf_6 (fun o1 _ => ?_)
    refine z_alen X hK dX5_sortOf_9 spX_14 (fun o2 _ => ?_)
    refine z_icmp_ge X (tgt := 22) dX5_sortOf_10 (by decide) (fun _ => ?_) (fun _ => ?_)
    · exact z_sub [] (J22  _) rfl
    · refine z_aload_n X (q := 0) dX5_sortOf_13 rfl rfl ?_
      refine z_getr X hK (N := 8) (ci := 5) (k := 1) rfl (by decide) inlX5 (by decide) hf_X5_9 rfl spX_X5 rfl dX5_sortOf_14 (fun o3 _ => ?_)
      refine z_iload_n X (q := 1) dX5_sortOf_17 rfl rfl ?_
      refine z_iald X hK dX5_sortOf_18 (fun o4 j5 _ _ => ?_)
      refine z_goto X (tgt := 24) dX5_sortOf_19 (by decide) ?_
      subst hQ; exact z_iret X hlocks hr dX5_sortOf_24
theorem zw_83 : Cond.fieldLink RX5 15 "WellGivesOther$Tokens" "starts" "[I" ∈ wsL_law := zr_3 _ (by decide +kernel)
theorem hf_X5_15 : Cond.fieldLink RX5 15 "WellGivesOther$Tokens" "starts" "[I" ∈ wsL_law := zw_83
theorem zw_84 : Cond.fieldLink RX5 24 "WellGivesOther$Tokens" "size" "I" ∈ wsL_law := zr_28 _ (by decide +kernel)
theorem hf_X5_24 : Cond.fieldLink RX5 24 "WellGivesOther$Tokens" "size" "I" ∈ wsL_law := zw_84
abbrev rmX5_startOf : Room := { frames := 1, cells := 0, slots := 0, locals := 40 }
def fX5_startOf_j22 (this : Nat) (st : zS) : Option (Int32 × zS) :=
  (zok spX st (some this) 5).bind fun o1 => some ((st.2.1 o1 4), st)
def fX5_startOf (this : Nat) (a1 : Int32) (st : zS) : Option (Int32 × zS) :=
  if a1 < 0 then (fX5_startOf_j22 this st) else ((zok spX st (some this) 5).bind fun o2 => (zla spX st (st.2.2.2 o2 2)).bind fun o3 => if (Int32.ofNat (spX o3).2) ≤ a1 then (fX5_startOf_j22 this st) else ((zok spX st (some this) 5).bind fun o4 => (zok spX st (st.2.2.2 o4 2) 9).bind fun o5 => (zix spX o5 a1).bind fun j6 => some ((st.2.1 o5 j6), st)))
set_option maxRecDepth 100000 in
set_option maxHeartbeats 4000000 in
theorem kX5_startOf (l : Launch) (Z : zZ) (b : Nat) (x : Option Nat) (this : Nat) (a1 : Int32) (st : zS) : zC l Z spX b x yX5_startOf (.code yX5_startOf cX5_startOf 2 (some .int)) (rmX5_startOf) rI [vP (some this), vI a1] st (fX5_startOf this a1 st) := by
  refine z_start (own := RX5) rfl (by decide +kernel) (Nat.le_of_ble_eq_true rfl) rfl (fun p e s m args below meth c res Q A X hK hr hlocks hQ => ?_)
  have J22 : ∀ (st : zS), zs p l e (rmX5_startOf) s m args below meth c Q Z spX b x A 2 0 0 res (fX5_startOf_j22 this st) 22 [(0, vP (some this))] [] st := by
    intro  st
    rw [fX5_startOf_j22]
    refine z_aload_n X (q := 0) dX5_startOf_22 rfl rfl ?_
    refine z_geti X hK (N := 8) (ci := 5) (k := 4) rfl (by decide) inlX5 (by decide) hf_X5_24 rfl spX_X5 rfl dX5_startOf_23 (fun o1 _ => ?_)
    subst hQ; exact z_iret X hlocks hr dX5_startOf_26
  rw [fX5_startOf]
  refine z_iload_n X (q := 1) dX5_startOf_0 rfl rfl ?_
  refine z_if_lt X (tgt := 22) dX5_startOf_1 (by decide) (fun _ => ?_) (fun _ => ?_)
  · exact z_sub [0] (J22  _) rfl
  · refine z_iload_n X (q := 1) dX5_startOf_4 rfl rfl ?_
    refine z_aload_n X (q := 0) dX5_startOf_5 rfl rfl ?_
    refine z_getr X hK (N := 8) (ci := 5) (k := 2) rfl (by decide) inlX5 (by decide) hf_X5_15 rfl spX_X5 rfl dX5_startOf_6 (fun o2 _ => ?_)
    refine z_alen X hK dX5_startOf_9 spX_14 (fun o3 _ => ?_)
    refine z_icmp_ge X (tgt := 22) dX5_startOf_10 (by decide) (fun _ => ?_) (fun _ => ?_)
    · exact z_sub [0] (J22  _) rfl
    · refine z_aload_n X (q := 0) dX5_startOf_13 rfl rfl ?_
      refine z_getr X hK (N := 8) (ci := 5) (k := 2) rfl (by decide) inlX5 (by decide) hf_X5_15 rfl spX_X5 rfl dX5_startOf_14 (fun o4 _ => ?_)
      refine z_iload_n X (q := 1) dX5_startOf_17 rfl rfl ?_
      refine z_iald X hK dX5_startOf_18 (fun o5 j6 _ _ => ?_)
      refine z_goto X (tgt := 26) dX5_startOf_19 (by decide) ?_
      subst hQ; exact z_iret X hlocks hr dX5_startOf_26
theorem zw_85 : Cond.fieldLink RX5 18 "WellGivesOther$Tokens" "values" "[I" ∈ wsL_law := zr_3 _ (by decide +kernel)
theorem hf_X5_18 : Cond.fieldLink RX5 18 "WellGivesOther$Tokens" "values" "[I" ∈ wsL_law := zw_85
abbrev rmX5_valueOf : Room := { frames := 1, cells := 0, slots := 0, locals := 40 }
def fX5_valueOf_j22 (this : Nat) (st : zS) : Option (Int32 × zS) :=
  some ((0 : Int32), st)
def fX5_valueOf (this : Nat) (a1 : Int32) (st : zS) : Option (Int32 × zS) :=
  if a1 < 0 then (fX5_valueOf_j22 this st) else ((zok spX st (some this) 5).bind fun o1 => (zla spX st (st.2.2.2 o1 3)).bind fun o2 => if (Int32.ofNat (spX o2).2) ≤ a1 then (fX5_valueOf_j22 this st) else ((zok spX st (some this) 5).bind fun o3 => (zok spX st (st.2.2.2 o3 3) 9).bind fun o4 => (zix spX o4 a1).bind fun j5 => some ((st.2.1 o4 j5), st)))
set_option maxRecDepth 100000 in
set_option maxHeartbeats 4000000 in
theorem kX5_valueOf (l : Launch) (Z : zZ) (b : Nat) (x : Option Nat) (this : Nat) (a1 : Int32) (st : zS) : zC l Z spX b x yX5_valueOf (.code yX5_valueOf cX5_valueOf 2 (some .int)) (rmX5_valueOf) rI [vP (some this), vI a1] st (fX5_valueOf this a1 st) := by
  refine z_start (own := RX5) rfl (by decide +kernel) (Nat.le_of_ble_eq_true rfl) rfl (fun p e s m args below meth c res Q A X hK hr hlocks hQ => ?_)
  have J22 : ∀ (st : zS), zs p l e (rmX5_valueOf) s m args below meth c Q Z spX b x A 2 0 0 res (fX5_valueOf_j22 this st) 22 [] [] st := by
    intro  st
    rw [fX5_valueOf_j22]
    refine z_iconst X (v := (0 : Int32)) dX5_valueOf_22 (by decide) ?_
    subst hQ; exact z_iret X hlocks hr dX5_valueOf_23
  rw [fX5_valueOf]
  refine z_iload_n X (q := 1) dX5_valueOf_0 rfl rfl ?_
  refine z_if_lt X (tgt := 22) dX5_valueOf_1 (by decide) (fun _ => ?_) (fun _ => ?_)
  · exact z_sub [] (J22  _) rfl
  · refine z_iload_n X (q := 1) dX5_valueOf_4 rfl rfl ?_
    refine z_aload_n X (q := 0) dX5_valueOf_5 rfl rfl ?_
    refine z_getr X hK (N := 8) (ci := 5) (k := 3) rfl (by decide) inlX5 (by decide) hf_X5_18 rfl spX_X5 rfl dX5_valueOf_6 (fun o1 _ => ?_)
    refine z_alen X hK dX5_valueOf_9 spX_14 (fun o2 _ => ?_)
    refine z_icmp_ge X (tgt := 22) dX5_valueOf_10 (by decide) (fun _ => ?_) (fun _ => ?_)
    · exact z_sub [] (J22  _) rfl
    · refine z_aload_n X (q := 0) dX5_valueOf_13 rfl rfl ?_
      refine z_getr X hK (N := 8) (ci := 5) (k := 3) rfl (by decide) inlX5 (by decide) hf_X5_18 rfl spX_X5 rfl dX5_valueOf_14 (fun o3 _ => ?_)
      refine z_iload_n X (q := 1) dX5_valueOf_17 rfl rfl ?_
      refine z_iald X hK dX5_valueOf_18 (fun o4 j5 _ _ => ?_)
      refine z_goto X (tgt := 23) dX5_valueOf_19 (by decide) ?_
      subst hQ; exact z_iret X hlocks hr dX5_valueOf_23
theorem zw_86 : Cond.fieldLink RX5 21 "WellGivesOther$Tokens" "bytes" "[I" ∈ wsL_law := zr_3 _ (by decide +kernel)
theorem hf_X5_21 : Cond.fieldLink RX5 21 "WellGivesOther$Tokens" "bytes" "[I" ∈ wsL_law := zw_86
abbrev rmX5_byteAt : Room := { frames := 1, cells := 0, slots := 0, locals := 40 }
def fX5_byteAt_j30 (this : Nat) (st : zS) : Option (Int32 × zS) :=
  some ((-1 : Int32), st)
def fX5_byteAt (this : Nat) (a1 : Int32) (st : zS) : Option (Int32 × zS) :=
  if a1 < 0 then (fX5_byteAt_j30 this st) else ((zok spX st (some this) 5).bind fun o1 => if (st.2.1 o1 4) ≤ a1 then (fX5_byteAt_j30 this st) else ((zok spX st (some this) 5).bind fun o2 => (zla spX st (st.2.2.2 o2 0)).bind fun o3 => if (Int32.ofNat (spX o3).2) ≤ a1 then (fX5_byteAt_j30 this st) else ((zok spX st (some this) 5).bind fun o4 => (zok spX st (st.2.2.2 o4 0) 9).bind fun o5 => (zix spX o5 a1).bind fun j6 => some ((st.2.1 o5 j6), st))))
set_option maxRecDepth 100000 in
set_option maxHeartbeats 4000000 in
theorem kX5_byteAt (l : Launch) (Z : zZ) (b : Nat) (x : Option Nat) (this : Nat) (a1 : Int32) (st : zS) : zC l Z spX b x yX5_byteAt (.code yX5_byteAt cX5_byteAt 2 (some .int)) (rmX5_byteAt) rI [vP (some this), vI a1] st (fX5_byteAt this a1 st) := by
  refine z_start (own := RX5) rfl (by decide +kernel) (Nat.le_of_ble_eq_true rfl) rfl (fun p e s m args below meth c res Q A X hK hr hlocks hQ => ?_)
  have J30 : ∀ (st : zS), zs p l e (rmX5_byteAt) s m args below meth c Q Z spX b x A 2 0 0 res (fX5_byteAt_j30 this st) 30 [] [] st := by
    intro  st
    rw [fX5_byteAt_j30]
    refine z_iconst X (v := (-1 : Int32)) dX5_byteAt_30 (by decide) ?_
    subst hQ; exact z_iret X hlocks hr dX5_byteAt_31
  rw [fX5_byteAt]
  refine z_iload_n X (q := 1) dX5_byteAt_0 rfl rfl ?_
  refine z_if_lt X (tgt := 30) dX5_byteAt_1 (by decide) (fun _ => ?_) (fun _ => ?_)
  · exact z_sub [] (J30  _) rfl
  · refine z_iload_n X (q := 1) dX5_byteAt_4 rfl rfl ?_
    refine z_aload_n X (q := 0) dX5_byteAt_5 rfl rfl ?_
    refine z_geti X hK (N := 8) (ci := 5) (k := 4) rfl (by decide) inlX5 (by decide) hf_X5_24 rfl spX_X5 rfl dX5_byteAt_6 (fun o1 _ => ?_)
    refine z_icmp_ge X (tgt := 30) dX5_byteAt_9 (by decide) (fun _ => ?_) (fun _ => ?_)
    · exact z_sub [] (J30  _) rfl
    · refine z_iload_n X (q := 1) dX5_byteAt_12 rfl rfl ?_
      refine z_aload_n X (q := 0) dX5_byteAt_13 rfl rfl ?_
      refine z_getr X hK (N := 8) (ci := 5) (k := 0) rfl (by decide) inlX5 (by decide) hf_X5_21 rfl spX_X5 rfl dX5_byteAt_14 (fun o2 _ => ?_)
      refine z_alen X hK dX5_byteAt_17 spX_14 (fun o3 _ => ?_)
      refine z_icmp_ge X (tgt := 30) dX5_byteAt_18 (by decide) (fun _ => ?_) (fun _ => ?_)
      · exact z_sub [] (J30  _) rfl
      · refine z_aload_n X (q := 0) dX5_byteAt_21 rfl rfl ?_
        refine z_getr X hK (N := 8) (ci := 5) (k := 0) rfl (by decide) inlX5 (by decide) hf_X5_21 rfl spX_X5 rfl dX5_byteAt_22 (fun o4 _ => ?_)
        refine z_iload_n X (q := 1) dX5_byteAt_25 rfl rfl ?_
        refine z_iald X hK dX5_byteAt_26 (fun o5 j6 _ _ => ?_)
        refine z_goto X (tgt := 31) dX5_byteAt_27 (by decide) ?_
        subst hQ; exact z_iret X hlocks hr dX5_byteAt_31
abbrev rmX5_isBlank : Room := { frames := 1, cells := 0, slots := 0, locals := 40 }
def fX5_isBlank_j12 (st : zS) : Option (Int32 × zS) :=
  some ((1 : Int32), st)
def fX5_isBlank (a0 : Int32) (st : zS) : Option (Int32 × zS) :=
  if a0 = (32 : Int32) then (fX5_isBlank_j12 st) else (if a0 = (10 : Int32) then (fX5_isBlank_j12 st) else (some ((0 : Int32), st)))
set_option maxRecDepth 100000 in
set_option maxHeartbeats 4000000 in
theorem kX5_isBlank (l : Launch) (Z : zZ) (b : Nat) (x : Option Nat) (a0 : Int32) (st : zS) : zC l Z spX b x yX5_isBlank (.code yX5_isBlank cX5_isBlank 1 (some .boolean)) (rmX5_isBlank) rI [vI a0] st (fX5_isBlank a0 st) := by
  refine z_start (own := RX5) rfl (by decide +kernel) (Nat.le_of_ble_eq_true rfl) rfl (fun p e s m args below meth c res Q A X hK hr hlocks hQ => ?_)
  have J12 : ∀ (st : zS), zs p l e (rmX5_isBlank) s m args below meth c Q Z spX b x A 1 0 0 res (fX5_isBlank_j12 st) 12 [] [] st := by
    intro  st
    rw [fX5_isBlank_j12]
    refine z_iconst X (v := (1 : Int32)) dX5_isBlank_12 (by decide) ?_
    refine z_goto X (tgt := 17) dX5_isBlank_13 (by decide) ?_
    subst hQ; exact z_zretc X hlocks hr (by decide) dX5_isBlank_17
  rw [fX5_isBlank]
  refine z_iload_n X (q := 0) dX5_isBlank_0 rfl rfl ?_
  refine z_bipush X (v := (32 : Int32)) dX5_isBlank_1 (by decide) ?_
  refine z_icmp_eq X (tgt := 12) dX5_isBlank_3 (by decide) (fun _ => ?_) (fun _ => ?_)
  · exact z_sub [] (J12  _) rfl
  · refine z_iload_n X (q := 0) dX5_isBlank_6 rfl rfl ?_
    refine z_bipush X (v := (10 : Int32)) dX5_isBlank_7 (by decide) ?_
    refine z_icmp_ne X (tgt := 16) dX5_isBlank_9 (by decide) (fun _ => ?_) (fun _ => ?_)
    · refine z_iconst X (v := (0 : Int32)) dX5_isBlank_16 (by decide) ?_
      subst hQ; exact z_zretc X hlocks hr (by decide) dX5_isBlank_17
    · exact z_sub [] (J12  _) rfl
abbrev rmX5_isDigit : Room := { frames := 1, cells := 0, slots := 0, locals := 40 }
def fX5_isDigit_j16 (st : zS) : Option (Int32 × zS) :=
  some ((0 : Int32), st)
def fX5_isDigit (a0 : Int32) (st : zS) : Option (Int32 × zS) :=
  if a0 < (48 : Int32) then (fX5_isDigit_j16 st) else (if (57 : Int32) < a0 then (fX5_isDigit_j16 st) else (some ((1 : Int32), st)))
set_option maxRecDepth 100000 in
set_option maxHeartbeats 4000000 in
theorem kX5_isDigit (l : Launch) (Z : zZ) (b : Nat) (x : Option Nat) (a0 : Int32) (st : zS) : zC l Z spX b x yX5_isDigit (.code yX5_isDigit cX5_isDigit 1 (some .boolean)) (rmX5_isDigit) rI [vI a0] st (fX5_isDigit a0 st) := by
  refine z_start (own := RX5) rfl (by decide +kernel) (Nat.le_of_ble_eq_true rfl) rfl (fun p e s m args below meth c res Q A X hK hr hlocks hQ => ?_)
  have J16 : ∀ (st : zS), zs p l e (rmX5_isDigit) s m args below meth c Q Z spX b x A 1 0 0 res (fX5_isDigit_j16 st) 16 [] [] st := by
    intro  st
    rw [fX5_isDigit_j16]
    refine z_iconst X (v := (0 : Int32)) dX5_isDigit_16 (by decide) ?_
    subst hQ; exact z_zretc X hlocks hr (by decide) dX5_isDigit_17
  rw [fX5_isDigit]
  refine z_iload_n X (q := 0) dX5_isDigit_0 rfl rfl ?_
  refine z_bipush X (v := (48 : Int32)) dX5_isDigit_1 (by decide) ?_
  refine z_icmp_lt X (tgt := 16) dX5_isDigit_3 (by decide) (fun _ => ?_) (fun _ => ?_)
  · exact z_sub [] (J16  _) rfl
  · refine z_iload_n X (q := 0) dX5_isDigit_6 rfl rfl ?_
    refine z_bipush X (v := (57 : Int32)) dX5_isDigit_7 (by decide) ?_
    refine z_icmp_gt X (tgt := 16) dX5_isDigit_9 (by decide) (fun _ => ?_) (fun _ => ?_)
    · exact z_sub [] (J16  _) rfl
    · refine z_iconst X (v := (1 : Int32)) dX5_isDigit_12 (by decide) ?_
      refine z_goto X (tgt := 17) dX5_isDigit_13 (by decide) ?_
      subst hQ; exact z_zretc X hlocks hr (by decide) dX5_isDigit_17
abbrev rmX5_isLetter : Room := { frames := 1, cells := 0, slots := 0, locals := 40 }
def fX5_isLetter_j16 (st : zS) : Option (Int32 × zS) :=
  some ((0 : Int32), st)
def fX5_isLetter (a0 : Int32) (st : zS) : Option (Int32 × zS) :=
  if a0 < (97 : Int32) then (fX5_isLetter_j16 st) else (if (122 : Int32) < a0 then (fX5_isLetter_j16 st) else (some ((1 : Int32), st)))
set_option maxRecDepth 100000 in
set_option maxHeartbeats 4000000 in
theorem kX5_isLetter (l : Launch) (Z : zZ) (b : Nat) (x : Option Nat) (a0 : Int32) (st : zS) : zC l Z spX b x yX5_isLetter (.code yX5_isLetter cX5_isLetter 1 (some .boolean)) (rmX5_isLetter) rI [vI a0] st (fX5_isLetter a0 st) := by
  refine z_start (own := RX5) rfl (by decide +kernel) (Nat.le_of_ble_eq_true rfl) rfl (fun p e s m args below meth c res Q A X hK hr hlocks hQ => ?_)
  have J16 : ∀ (st : zS), zs p l e (rmX5_isLetter) s m args below meth c Q Z spX b x A 1 0 0 res (fX5_isLetter_j16 st) 16 [] [] st := by
    intro  st
    rw [fX5_isLetter_j16]
    refine z_iconst X (v := (0 : Int32)) dX5_isLetter_16 (by decide) ?_
    subst hQ; exact z_zretc X hlocks hr (by decide) dX5_isLetter_17
  rw [fX5_isLetter]
  refine z_iload_n X (q := 0) dX5_isLetter_0 rfl rfl ?_
  refine z_bipush X (v := (97 : Int32)) dX5_isLetter_1 (by decide) ?_
  refine z_icmp_lt X (tgt := 16) dX5_isLetter_3 (by decide) (fun _ => ?_) (fun _ => ?_)
  · exact z_sub [] (J16  _) rfl
  · refine z_iload_n X (q := 0) dX5_isLetter_6 rfl rfl ?_
    refine z_bipush X (v := (122 : Int32)) dX5_isLetter_7 (by decide) ?_
    refine z_icmp_gt X (tgt := 16) dX5_isLetter_9 (by decide) (fun _ => ?_) (fun _ => ?_)
    · exact z_sub [] (J16  _) rfl
    · refine z_iconst X (v := (1 : Int32)) dX5_isLetter_12 (by decide) ?_
      refine z_goto X (tgt := 17) dX5_isLetter_13 (by decide) ?_
      subst hQ; exact z_zretc X hlocks hr (by decide) dX5_isLetter_17
abbrev rmX5_isSign : Room := { frames := 1, cells := 0, slots := 0, locals := 40 }
def fX5_isSign (a0 : Int32) (st : zS) : Option (Int32 × zS) :=
  if a0 = (40 : Int32) then (some ((1 : Int32), st)) else (if a0 = (41 : Int32) then (some ((1 : Int32), st)) else (if a0 = (42 : Int32) then (some ((1 : Int32), st)) else (if a0 = (43 : Int32) then (some ((1 : Int32), st)) else (if a0 = (45 : Int32) then (some ((1 : Int32), st)) else (if a0 = (59 : Int32) then (some ((1 : Int32), st)) else (if a0 = (60 : Int32) then (some ((1 : Int32), st)) else (if a0 = (61 : Int32) then (some ((1 : Int32), st)) else (some ((0 : Int32), st)))))))))
set_option maxRecDepth 100000 in
set_option maxHeartbeats 4000000 in
theorem kX5_isSign (l : Launch) (Z : zZ) (b : Nat) (x : Option Nat) (a0 : Int32) (st : zS) : zC l Z spX b x yX5_isSign (.code yX5_isSign cX5_isSign 1 (some .boolean)) (rmX5_isSign) rI [vI a0] st (fX5_isSign a0 st) := by
  refine z_start (own := RX5) rfl (by decide +kernel) (Nat.le_of_ble_eq_true rfl) rfl (fun p e s m args below meth c res Q A X hK hr hlocks hQ => ?_)
  rw [fX5_isSign]
  refine z_iload_n X (q := 0) dX5_isSign_0 rfl rfl ?_
  refine z_ite (fun h1 => ?_) (fun h1 => ?_)
  · refine z_tabIn X (off := 103) (tgt := 104) dX5_isSign_1 (by rw [h1]; decide) (by rw [h1]; decide) (by rw [h1]; rfl) (by decide) ?_
    refine z_iconst X (v := (1 : Int32)) dX5_isSign_104 (by decide) ?_
    subst hQ; exact z_zretc X hlocks hr (by decide) dX5_isSign_105
  refine z_ite (fun h2 => ?_) (fun h2 => ?_)
  · refine z_tabIn X (off := 103) (tgt := 104) dX5_isSign_1 (by rw [h2]; decide) (by rw [h2]; decide) (by rw [h2]; rfl) (by decide) ?_
    refine z_iconst X (v := (1 : Int32)) dX5_isSign_104 (by decide) ?_
    subst hQ; exact z_zretc X hlocks hr (by decide) dX5_isSign_105
  refine z_ite (fun h3 => ?_) (fun h3 => ?_)
  · refine z_tabIn X (off := 103) (tgt := 104) dX5_isSign_1 (by rw [h3]; decide) (by rw [h3]; decide) (by rw [h3]; rfl) (by decide) ?_
    refine z_iconst X (v := (1 : Int32)) dX5_isSign_104 (by decide) ?_
    subst hQ; exact z_zretc X hlocks hr (by decide) dX5_isSign_105
  refine z_ite (fun h4 => ?_) (fun h4 => ?_)
  · refine z_tabIn X (off := 103) (tgt := 104) dX5_isSign_1 (by rw [h4]; decide) (by rw [h4]; decide) (by rw [h4]; rfl) (by decide) ?_
    refine z_iconst X (v := (1 : Int32)) dX5_isSign_104 (by decide) ?_
    subst hQ; exact z_zretc X hlocks hr (by decide) dX5_isSign_105
  refine z_ite (fun h5 => ?_) (fun h5 => ?_)
  · refine z_tabIn X (off := 103) (tgt := 104) dX5_isSign_1 (by rw [h5]; decide) (by rw [h5]; decide) (by rw [h5]; rfl) (by decide) ?_
    refine z_iconst X (v := (1 : Int32)) dX5_isSign_104 (by decide) ?_
    subst hQ; exact z_zretc X hlocks hr (by decide) dX5_isSign_105
  refine z_ite (fun h6 => ?_) (fun h6 => ?_)
  · refine z_tabIn X (off := 103) (tgt := 104) dX5_isSign_1 (by rw [h6]; decide) (by rw [h6]; decide) (by rw [h6]; rfl) (by decide) ?_
    refine z_iconst X (v := (1 : Int32)) dX5_isSign_104 (by decide) ?_
    subst hQ; exact z_zretc X hlocks hr (by decide) dX5_isSign_105
  refine z_ite (fun h7 => ?_) (fun h7 => ?_)
  · refine z_tabIn X (off := 103) (tgt := 104) dX5_isSign_1 (by rw [h7]; decide) (by rw [h7]; decide) (by rw [h7]; rfl) (by decide) ?_
    refine z_iconst X (v := (1 : Int32)) dX5_isSign_104 (by decide) ?_
    subst hQ; exact z_zretc X hlocks hr (by decide) dX5_isSign_105
  refine z_ite (fun h8 => ?_) (fun h8 => ?_)
  · refine z_tabIn X (off := 103) (tgt := 104) dX5_isSign_1 (by rw [h8]; decide) (by rw [h8]; decide) (by rw [h8]; rfl) (by decide) ?_
    refine z_iconst X (v := (1 : Int32)) dX5_isSign_104 (by decide) ?_
    subst hQ; exact z_zretc X hlocks hr (by decide) dX5_isSign_105
  refine z_tabGap X (tgt := 106) dX5_isSign_1 (by have := lv_neT (a := 40) h1 (by decide); have := lv_neT (a := 41) h2 (by decide); have := lv_neT (a := 42) h3 (by decide); have := lv_neT (a := 43) h4 (by decide); have := lv_neT (a := 45) h5 (by decide); have := lv_neT (a := 59) h6 (by decide); have := lv_neT (a := 60) h7 (by decide); have := lv_neT (a := 61) h8 (by decide); rcases (show (a0).toInt < 40 ∨ 61 < (a0).toInt ∨ (a0).toInt = 44 ∨ (a0).toInt = 46 ∨ (a0).toInt = 47 ∨ (a0).toInt = 48 ∨ (a0).toInt = 49 ∨ (a0).toInt = 50 ∨ (a0).toInt = 51 ∨ (a0).toInt = 52 ∨ (a0).toInt = 53 ∨ (a0).toInt = 54 ∨ (a0).toInt = 55 ∨ (a0).toInt = 56 ∨ (a0).toInt = 57 ∨ (a0).toInt = 58 by omega) with h | h | h | h | h | h | h | h | h | h | h | h | h | h | h | h; exact Or.inl h; exact Or.inr (Or.inl h); all_goals exact Or.inr (Or.inr (by rw [h]; rfl))) (by decide) ?_
  refine z_iconst X (v := (0 : Int32)) dX5_isSign_106 (by decide) ?_
  subst hQ; exact z_zretc X hlocks hr (by decide) dX5_isSign_107
theorem zw_87 : Cond.methodLink RX5 41 yX5_byteAt ∈ wsL_law := zr_28 _ (by decide +kernel)
theorem zw_88 : Cond.instanceMethod yX5_byteAt ∈ wsL_law := zr_28 _ (by decide +kernel)
theorem zw_89 : Cond.selects RX5 yX5_byteAt yX5_byteAt ∈ wsL_law := zr_28 _ (by decide +kernel)
theorem zw_90 : Cond.initialized RX5 ∈ wsL_law := zr_3 _ (by decide +kernel)
theorem zw_91 : Cond.code yX5_byteAt cX5_byteAt 2 (some .int) ∈ wsL_law := zr_28 _ (by decide +kernel)
theorem hk_X5_41 : ∀ w ∈ ([Cond.methodLink RX5 41 yX5_byteAt, Cond.instanceMethod yX5_byteAt, Cond.selects RX5 yX5_byteAt yX5_byteAt, Cond.initialized RX5, Cond.code yX5_byteAt cX5_byteAt 2 (some .int)] : List Cond), w ∈ wsL_law := List.forall_mem_cons.mpr ⟨zw_87, List.forall_mem_cons.mpr ⟨zw_88, List.forall_mem_cons.mpr ⟨zw_89, List.forall_mem_cons.mpr ⟨zw_90, List.forall_mem_cons.mpr ⟨zw_91, fun _ h => absurd h List.not_mem_nil⟩⟩⟩⟩⟩
theorem zw_92 : Cond.methodLink RX5 55 yX5_isDigit ∈ wsL_law := zr_31 _ (by decide +kernel)
theorem zw_93 : Cond.static yX5_isDigit ∈ wsL_law := zr_31 _ (by decide +kernel)
theorem zw_94 : Cond.code yX5_isDigit cX5_isDigit 1 (some .boolean) ∈ wsL_law := zr_31 _ (by decide +kernel)
theorem hk_X5_55 : ∀ w ∈ ([Cond.methodLink RX5 55 yX5_isDigit, Cond.static yX5_isDigit, Cond.initialized RX5, Cond.code yX5_isDigit cX5_isDigit 1 (some .boolean)] : List Cond), w ∈ wsL_law := List.forall_mem_cons.mpr ⟨zw_92, List.forall_mem_cons.mpr ⟨zw_93, List.forall_mem_cons.mpr ⟨zw_90, List.forall_mem_cons.mpr ⟨zw_94, fun _ h => absurd h List.not_mem_nil⟩⟩⟩⟩
theorem hd_X5_byteAt : yX5_byteAt.cls = RX5 ∧ yX5_byteAt.cls ≠ "java/lang/invoke/MethodHandle" ∧ yX5_byteAt.cls ≠ "java/lang/invoke/VarHandle" ∧ (parseMethodDescriptor yX5_byteAt.desc).map (fun d => d.parameters.length) = some 1 := by decide +kernel
theorem hd_X5_isDigit : yX5_isDigit.cls = RX5 ∧ yX5_isDigit.cls ≠ "java/lang/invoke/MethodHandle" ∧ yX5_isDigit.cls ≠ "java/lang/invoke/VarHandle" ∧ (parseMethodDescriptor yX5_isDigit.desc).map (fun d => d.parameters.length) = some 1 := by decide +kernel
theorem zw_95 : Cond.fieldLink RX5 28 "WellGivesOther$Tokens" "end" "I" ∈ wsL_law := zr_28 _ (by decide +kernel)
theorem hf_X5_28 : Cond.fieldLink RX5 28 "WellGivesOther$Tokens" "end" "I" ∈ wsL_law := zw_95
theorem zw_96 : Cond.fieldLink RX5 35 "WellGivesOther$Tokens" "start" "I" ∈ wsL_law := zr_28 _ (by decide +kernel)
theorem hf_X5_35 : Cond.fieldLink RX5 35 "WellGivesOther$Tokens" "start" "I" ∈ wsL_law := zw_96
theorem zw_97 : Cond.fieldLink RX5 38 "WellGivesOther$Tokens" "value" "I" ∈ wsL_law := zr_28 _ (by decide +kernel)
theorem hf_X5_38 : Cond.fieldLink RX5 38 "WellGivesOther$Tokens" "value" "I" ∈ wsL_law := zw_97
abbrev rmX5_scanNumber : Room := { frames := 2, cells := 0, slots := 0, locals := 61 }
def fX5_scanNumber_L60 (this : Nat) : Nat → Int32 → zS → Option (Int32 × zS)
  | 0, _, _ => none
  | n + 1, y1, st => (zok spX st (some this) 5).bind fun o1 => if (st.2.1 o1 6) ≤ y1 then (some ((7 : Int32), st)) else ((zok spX st (some this) 5).bind fun o2 => (zok spX st (some this) 5).bind fun o6 => (fX5_byteAt o6 y1 st).bind fun q3 => (zok spX q3.2 (some this) 5).bind fun o4 => zlet (zp q3.2 o4 7 ((((st.2.1 o2 7) * (10 : Int32)) + q3.1) - (48 : Int32))) fun st5 => (fX5_scanNumber_L60 this n) (y1 + (1 : Int32)) st5)
def fX5_scanNumber_j39 (this : Nat) (st : zS) : Option (Int32 × zS) :=
  (zok spX st (some this) 5).bind fun o7 => (zok spX st (some this) 5).bind fun o8 => if ((st.2.1 o7 6) - (st.2.1 o8 5)) ≤ (4 : Int32) then ((zok spX st (some this) 5).bind fun o9 => zlet ((st.2.1 o9 5)) fun v10 => fX5_scanNumber_L60 this zF v10 st) else (some ((9 : Int32), st))
def fX5_scanNumber_L2 (this : Nat) : Nat → Int32 → zS → Option (Int32 × zS)
  | 0, _, _ => none
  | n + 1, y1, st => if (160 : Int32) ≤ y1 then (fX5_scanNumber_j39 this st) else ((zok spX st (some this) 5).bind fun o11 => (zok spX st (some this) 5).bind fun o17 => (fX5_byteAt o17 (st.2.1 o11 6) st).bind fun q12 => (fX5_isDigit q12.1 q12.2).bind fun q13 => if q13.1 = 0 then (fX5_scanNumber_j39 this q13.2) else ((zok spX q13.2 (some this) 5).bind fun o14 => (zok spX q13.2 (some this) 5).bind fun o15 => zlet (zp q13.2 o15 6 ((q13.2.2.1 o14 6) + (1 : Int32))) fun st16 => (fX5_scanNumber_L2 this n) (y1 + (1 : Int32)) st16))
def fX5_scanNumber (this : Nat) (st : zS) : Option (Int32 × zS) :=
  fX5_scanNumber_L2 this zF (0 : Int32) st
set_option maxRecDepth 100000 in
set_option maxHeartbeats 4000000 in
theorem kX5_scanNumber (l : Launch) (Z : zZ) (b : Nat) (x : Option Nat) (this : Nat) (st : zS) : zC l Z spX b x yX5_scanNumber (.code yX5_scanNumber cX5_scanNumber 2 (some .int)) (rmX5_scanNumber) rI [vP (some this)] st (fX5_scanNumber this st) := by
  refine z_start (own := RX5) rfl (by decide +kernel) (Nat.le_of_ble_eq_true rfl) rfl (fun p e s m args below meth c res Q A X hK hr hlocks hQ => ?_)
  have J60 : ∀ (n60 : Nat) (y1 : Int32) (st : zS), zs p l e (rmX5_scanNumber) s m args below meth c Q Z spX b x A 2 0 0 res (fX5_scanNumber_L60 this n60 y1 st) 60 [(0, vP (some this)), (1, vI y1)] [] st := by
    intro n60
    induction n60 with
    | zero => intros; exact z_none
    | succ n60 ih60 =>
      intro y1 st
      rw [fX5_scanNumber_L60]
      refine z_iload_n X (q := 1) dX5_scanNumber_60 rfl rfl ?_
      refine z_aload_n X (q := 0) dX5_scanNumber_61 rfl rfl ?_
      refine z_geti X hK (N := 8) (ci := 5) (k := 6) rfl (by decide) inlX5 (by decide) hf_X5_28 rfl spX_X5 rfl dX5_scanNumber_62 (fun o1 _ => ?_)
      refine z_icmp_ge X (tgt := 94) dX5_scanNumber_65 (by decide) (fun _ => ?_) (fun _ => ?_)
      · refine z_bipush X (v := (7 : Int32)) dX5_scanNumber_94 (by decide) ?_
        subst hQ; exact z_iret X hlocks hr dX5_scanNumber_96
      · refine z_aload_n X (q := 0) dX5_scanNumber_68 rfl rfl ?_
        refine z_aload_n X (q := 0) dX5_scanNumber_69 rfl rfl ?_
        refine z_geti X hK (N := 8) (ci := 5) (k := 7) rfl (by decide) inlX5 (by decide) hf_X5_38 rfl spX_X5 rfl dX5_scanNumber_70 (fun o2 _ => ?_)
        refine z_bipush X (v := (10 : Int32)) dX5_scanNumber_73 (by decide) ?_
        refine z_imul X dX5_scanNumber_75 ?_
        refine z_aload_n X (q := 0) dX5_scanNumber_76 rfl rfl ?_
        refine z_iload_n X (q := 1) dX5_scanNumber_77 rfl rfl ?_
        refine z_callV X hK (As := [vI y1]) (ci := 5) rfl (by decide) (fun o => (kX5_byteAt l Z  b x o _ _)) hk_X5_41 ⟨rfl, rfl⟩ hd_X5_byteAt ⟨Nat.le_of_ble_eq_true rfl, Nat.le_of_ble_eq_true rfl⟩ ⟨Nat.le_of_ble_eq_true rfl, Nat.le_of_ble_eq_true rfl⟩ rfl rfl (Nat.le_of_ble_eq_true rfl) dX5_scanNumber_78 (fun _ q3 _ => ?_)
        refine z_iadd X dX5_scanNumber_81 ?_
        refine z_bipush X (v := (48 : Int32)) dX5_scanNumber_82 (by decide) ?_
        refine z_isub X dX5_scanNumber_84 ?_
        refine z_puti X hK (N := 8) (ci := 5) (k := 7) rfl (by decide) inlX5 tyX5 tyX5_ok nmX5 (by decide) hf_X5_38 rfl rfl spX_X5 rfl (by decide +kernel) dX5_scanNumber_85 (fun o4 st5 _ => ?_)
        refine z_iinc X (q := 1) (y := y1 + (1 : Int32)) dX5_scanNumber_88 rfl rfl (Nat.le_of_ble_eq_true rfl) rfl ?_
        refine z_goto X (tgt := 60) dX5_scanNumber_91 (by decide) ?_
        exact z_sub [1, 0] (ih60 _ _) rfl
  have J39 : ∀ (st : zS), zs p l e (rmX5_scanNumber) s m args below meth c Q Z spX b x A 2 0 0 res (fX5_scanNumber_j39 this st) 39 [(0, vP (some this))] [] st := by
    intro  st
    rw [fX5_scanNumber_j39]
    refine z_aload_n X (q := 0) dX5_scanNumber_39 rfl rfl ?_
    refine z_geti X hK (N := 8) (ci := 5) (k := 6) rfl (by decide) inlX5 (by decide) hf_X5_28 rfl spX_X5 rfl dX5_scanNumber_40 (fun o7 _ => ?_)
    refine z_aload_n X (q := 0) dX5_scanNumber_43 rfl rfl ?_
    refine z_geti X hK (N := 8) (ci := 5) (k := 5) rfl (by decide) inlX5 (by decide) hf_X5_35 rfl spX_X5 rfl dX5_scanNumber_44 (fun o8 _ => ?_)
    refine z_isub X dX5_scanNumber_47 ?_
    refine z_iconst X (v := (4 : Int32)) dX5_scanNumber_48 (by decide) ?_
    refine z_icmp_le X (tgt := 55) dX5_scanNumber_49 (by decide) (fun _ => ?_) (fun _ => ?_)
    · refine z_aload_n X (q := 0) dX5_scanNumber_55 rfl rfl ?_
      refine z_geti X hK (N := 8) (ci := 5) (k := 5) rfl (by decide) inlX5 (by decide) hf_X5_35 rfl spX_X5 rfl dX5_scanNumber_56 (fun o9 _ => ?_)
      refine z_name (fun v10 => ?_)
      refine z_istore_n X dX5_scanNumber_59 rfl (Nat.le_of_ble_eq_true rfl) rfl ?_
      exact z_sub [1, 0] (J60 _ _ _) rfl
    · refine z_bipush X (v := (9 : Int32)) dX5_scanNumber_52 (by decide) ?_
      subst hQ; exact z_iret X hlocks hr dX5_scanNumber_54
  have J2 : ∀ (n2 : Nat) (y1 : Int32) (st : zS), zs p l e (rmX5_scanNumber) s m args below meth c Q Z spX b x A 2 0 0 res (fX5_scanNumber_L2 this n2 y1 st) 2 [(0, vP (some this)), (1, vI y1)] [] st := by
    intro n2
    induction n2 with
    | zero => intros; exact z_none
    | succ n2 ih2 =>
      intro y1 st
      rw [fX5_scanNumber_L2]
      refine z_iload_n X (q := 1) dX5_scanNumber_2 rfl rfl ?_
      refine z_sipush X (v := (160 : Int32)) dX5_scanNumber_3 (by decide) ?_
      refine z_icmp_ge X (tgt := 39) dX5_scanNumber_6 (by decide) (fun _ => ?_) (fun _ => ?_)
      · exact z_sub [0] (J39  _) rfl
      · refine z_aload_n X (q := 0) dX5_scanNumber_9 rfl rfl ?_
        refine z_aload_n X (q := 0) dX5_scanNumber_10 rfl rfl ?_
        refine z_geti X hK (N := 8) (ci := 5) (k := 6) rfl (by decide) inlX5 (by decide) hf_X5_28 rfl spX_X5 rfl dX5_scanNumber_11 (fun o11 _ => ?_)
        refine z_callV X hK (As := [vI (st.2.1 o11 6)]) (ci := 5) rfl (by decide) (fun o => (kX5_byteAt l Z  b x o _ _)) hk_X5_41 ⟨rfl, rfl⟩ hd_X5_byteAt ⟨Nat.le_of_ble_eq_true rfl, Nat.le_of_ble_eq_true rfl⟩ ⟨Nat.le_of_ble_eq_true rfl, Nat.le_of_ble_eq_true rfl⟩ rfl rfl (Nat.le_of_ble_eq_true rfl) dX5_scanNumber_14 (fun _ q12 _ => ?_)
        refine z_callS X hK (As := [vI q12.1]) (kX5_isDigit l Z  b x _ _) hk_X5_55 ⟨rfl, rfl⟩ hd_X5_isDigit.2 ⟨Nat.le_of_ble_eq_true rfl, Nat.le_of_ble_eq_true rfl⟩ ⟨Nat.le_of_ble_eq_true rfl, Nat.le_of_ble_eq_true rfl⟩ rfl rfl (Nat.le_of_ble_eq_true rfl) dX5_scanNumber_17 (fun q13 => ?_)
        refine z_if_eq X (tgt := 39) dX5_scanNumber_20 (by decide) (fun _ => ?_) (fun _ => ?_)
        · exact z_sub [0] (J39  _) rfl
        · refine z_aload_n X (q := 0) dX5_scanNumber_23 rfl rfl ?_
          refine z_dup X dX5_scanNumber_24 rfl ?_
          refine z_geti X hK (N := 8) (ci := 5) (k := 6) rfl (by decide) inlX5 (by decide) hf_X5_28 rfl spX_X5 rfl dX5_scanNumber_25 (fun o14 _ => ?_)
          refine z_iconst X (v := (1 : Int32)) dX5_scanNumber_28 (by decide) ?_
          refine z_iadd X dX5_scanNumber_29 ?_
          refine z_puti X hK (N := 8) (ci := 5) (k := 6) rfl (by decide) inlX5 tyX5 tyX5_ok nmX5 (by decide) hf_X5_28 rfl rfl spX_X5 rfl (by decide +kernel) dX5_scanNumber_30 (fun o15 st16 _ => ?_)
          refine z_iinc X (q := 1) (y := y1 + (1 : Int32)) dX5_scanNumber_33 rfl rfl (Nat.le_of_ble_eq_true rfl) rfl ?_
          refine z_goto X (tgt := 2) dX5_scanNumber_36 (by decide) ?_
          exact z_sub [1, 0] (ih2 _ _) rfl
  rw [fX5_scanNumber]
  refine z_iconst X (v := (0 : Int32)) dX5_scanNumber_0 (by decide) ?_
  refine z_istore_n X dX5_scanNumber_1 rfl (Nat.le_of_ble_eq_true rfl) rfl ?_
  exact z_sub [1, 0] (J2 _ _ _) rfl
theorem zw_98 : Cond.methodLink RX5 94 yJ0_length_8abf5 ∈ wsL_law := zr_29 _ (by decide +kernel)
theorem zw_99 : Cond.instanceMethod yJ0_length_8abf5 ∈ wsL_law := zr_29 _ (by decide +kernel)
theorem zw_100 : Cond.selects RJ0 yJ0_length_8abf5 yJ0_length_8abf5 ∈ wsL_law := zr_29 _ (by decide +kernel)
theorem zw_101 : Cond.code yJ0_length_8abf5 cJ0_length_8abf5 1 (some .int) ∈ wsL_law := zr_29 _ (by decide +kernel)
theorem hk_X5_94 : ∀ w ∈ ([Cond.methodLink RX5 94 yJ0_length_8abf5, Cond.instanceMethod yJ0_length_8abf5, Cond.selects RJ0 yJ0_length_8abf5 yJ0_length_8abf5, Cond.initialized RJ0, Cond.code yJ0_length_8abf5 cJ0_length_8abf5 1 (some .int)] : List Cond), w ∈ wsL_law := List.forall_mem_cons.mpr ⟨zw_98, List.forall_mem_cons.mpr ⟨zw_99, List.forall_mem_cons.mpr ⟨zw_100, List.forall_mem_cons.mpr ⟨zw_8, List.forall_mem_cons.mpr ⟨zw_101, fun _ h => absurd h List.not_mem_nil⟩⟩⟩⟩⟩
theorem zw_102 : Cond.methodLink RX5 99 yJ0_charAt_5068e ∈ wsL_law := zr_29 _ (by decide +kernel)
theorem zw_103 : Cond.instanceMethod yJ0_charAt_5068e ∈ wsL_law := zr_29 _ (by decide +kernel)
theorem zw_104 : Cond.selects RJ0 yJ0_charAt_5068e yJ0_charAt_5068e ∈ wsL_law := zr_29 _ (by decide +kernel)
theorem zw_105 : Cond.code yJ0_charAt_5068e cJ0_charAt_5068e 2 (some .char) ∈ wsL_law := zr_30 _ (by decide +kernel)
theorem hk_X5_99 : ∀ w ∈ ([Cond.methodLink RX5 99 yJ0_charAt_5068e, Cond.instanceMethod yJ0_charAt_5068e, Cond.selects RJ0 yJ0_charAt_5068e yJ0_charAt_5068e, Cond.initialized RJ0, Cond.code yJ0_charAt_5068e cJ0_charAt_5068e 2 (some .char)] : List Cond), w ∈ wsL_law := List.forall_mem_cons.mpr ⟨zw_102, List.forall_mem_cons.mpr ⟨zw_103, List.forall_mem_cons.mpr ⟨zw_104, List.forall_mem_cons.mpr ⟨zw_8, List.forall_mem_cons.mpr ⟨zw_105, fun _ h => absurd h List.not_mem_nil⟩⟩⟩⟩⟩
theorem hd_J0_charAt_5068e : yJ0_charAt_5068e.cls = RJ0 ∧ yJ0_charAt_5068e.cls ≠ "java/lang/invoke/MethodHandle" ∧ yJ0_charAt_5068e.cls ≠ "java/lang/invoke/VarHandle" ∧ (parseMethodDescriptor yJ0_charAt_5068e.desc).map (fun d => d.parameters.length) = some 1 := by decide +kernel
theorem hd_J0_length_8abf5 : yJ0_length_8abf5.cls = RJ0 ∧ yJ0_length_8abf5.cls ≠ "java/lang/invoke/MethodHandle" ∧ yJ0_length_8abf5.cls ≠ "java/lang/invoke/VarHandle" ∧ (parseMethodDescriptor yJ0_length_8abf5.desc).map (fun d => d.parameters.length) = some 0 := by decide +kernel
abbrev rmX5_isWord : Room := { frames := 5, cells := 0, slots := 0, locals := 241 }
def fX5_isWord_L20 (this : Nat) : Nat → Nat → Int32 → zS → Option (Int32 × zS)
  | 0, _, _, _ => none
  | n + 1, y1, y2, st => if y1 < 12 then ((fJ0_length_8abf5 y1 st).bind fun q1 => if q1.1 ≤ y2 then (some ((1 : Int32), q1.2)) else ((zok spX q1.2 (some this) 5).bind fun o3 => (zok spX q1.2 (some this) 5).bind fun o7 => (fX5_byteAt o7 ((q1.2.2.1 o3 5) + y2) q1.2).bind fun q4 => if y1 < 12 then ((fJ0_charAt_5068e y1 y2 q4.2).bind fun q5 => if q4.1 = q5.1 then ((fX5_isWord_L20 this n) y1 (y2 + (1 : Int32)) q5.2) else (some ((0 : Int32), q5.2))) else none)) else none
def fX5_isWord (this : Nat) (a1 : Nat) (st : zS) : Option (Int32 × zS) :=
  (zok spX st (some this) 5).bind fun o8 => (zok spX st (some this) 5).bind fun o9 => if a1 < 12 then ((fJ0_length_8abf5 a1 st).bind fun q10 => if ((st.2.1 o8 6) - (st.2.1 o9 5)) = q10.1 then (fX5_isWord_L20 this zF a1 (0 : Int32) q10.2) else (some ((0 : Int32), q10.2))) else none
set_option maxRecDepth 100000 in
set_option maxHeartbeats 4000000 in
theorem kX5_isWord (l : Launch) (Z : zZ) (b : Nat) (x : Option Nat) (this : Nat) (a1 : Nat) (st : zS) : zC l Z spX b x yX5_isWord (.code yX5_isWord cX5_isWord 3 (some .boolean)) (rmX5_isWord) rI [vP (some this), vA (Z.2.2.2.1 a1)] st (fX5_isWord this a1 st) := by
  refine z_start (own := RX5) rfl (by decide +kernel) (Nat.le_of_ble_eq_true rfl) rfl (fun p e s m args below meth c res Q A X hK hr hlocks hQ => ?_)
  have J20 : ∀ (n20 : Nat) (y1 : Nat) (y2 : Int32) (st : zS), zs p l e (rmX5_isWord) s m args below meth c Q Z spX b x A 3 0 0 res (fX5_isWord_L20 this n20 y1 y2 st) 20 [(0, vP (some this)), (1, vA (Z.2.2.2.1 y1)), (2, vI y2)] [] st := by
    intro n20
    induction n20 with
    | zero => intros; exact z_none
    | succ n20 ih20 =>
      intro y1 y2 st
      rw [fX5_isWord_L20]
      refine z_iload_n X (q := 2) dX5_isWord_20 rfl rfl ?_
      refine z_aloadA_n X (q := 1) dX5_isWord_21 rfl rfl ?_
      refine z_ite (fun h2 => ?_) (fun _ => z_none)
      refine z_callA X hK (As := []) h2 (kJ0_length_8abf5 l Z spX b x _ h2 _) hk_X5_94 ⟨rfl, rfl⟩ hd_J0_length_8abf5 ⟨Nat.le_of_ble_eq_true rfl, Nat.le_of_ble_eq_true rfl⟩ ⟨Nat.le_of_ble_eq_true rfl, Nat.le_of_ble_eq_true rfl⟩ rfl rfl (Nat.le_of_ble_eq_true rfl) dX5_isWord_22 (fun q1 => ?_)
      refine z_icmp_ge X (tgt := 54) dX5_isWord_25 (by decide) (fun _ => ?_) (fun _ => ?_)
      · refine z_iconst X (v := (1 : Int32)) dX5_isWord_54 (by decide) ?_
        subst hQ; exact z_zretc X hlocks hr (by decide) dX5_isWord_55
      · refine z_aload_n X (q := 0) dX5_isWord_28 rfl rfl ?_
        refine z_aload_n X (q := 0) dX5_isWord_29 rfl rfl ?_
        refine z_geti X hK (N := 8) (ci := 5) (k := 5) rfl (by decide) inlX5 (by decide) hf_X5_35 rfl spX_X5 rfl dX5_isWord_30 (fun o3 _ => ?_)
        refine z_iload_n X (q := 2) dX5_isWord_33 rfl rfl ?_
        refine z_iadd X dX5_isWord_34 ?_
        refine z_callV X hK (As := [vI ((q1.2.2.1 o3 5) + y2)]) (ci := 5) rfl (by decide) (fun o => (kX5_byteAt l Z  b x o _ _)) hk_X5_41 ⟨rfl, rfl⟩ hd_X5_byteAt ⟨Nat.le_of_ble_eq_true rfl, Nat.le_of_ble_eq_true rfl⟩ ⟨Nat.le_of_ble_eq_true rfl, Nat.le_of_ble_eq_true rfl⟩ rfl rfl (Nat.le_of_ble_eq_true rfl) dX5_isWord_35 (fun _ q4 _ => ?_)
        refine z_aloadA_n X (q := 1) dX5_isWord_38 rfl rfl ?_
        refine z_iload_n X (q := 2) dX5_isWord_39 rfl rfl ?_
        refine z_ite (fun h6 => ?_) (fun _ => z_none)
        refine z_callA X hK (As := [vI y2]) h6 (kJ0_charAt_5068e l Z spX b x _ h6 _ _) hk_X5_99 ⟨rfl, rfl⟩ hd_J0_charAt_5068e ⟨Nat.le_of_ble_eq_true rfl, Nat.le_of_ble_eq_true rfl⟩ ⟨Nat.le_of_ble_eq_true rfl, Nat.le_of_ble_eq_true rfl⟩ rfl rfl (Nat.le_of_ble_eq_true rfl) dX5_isWord_40 (fun q5 => ?_)
        refine z_icmp_eq X (tgt := 48) dX5_isWord_43 (by decide) (fun _ => ?_) (fun _ => ?_)
        · refine z_iinc X (q := 2) (y := y2 + (1 : Int32)) dX5_isWord_48 rfl rfl (Nat.le_of_ble_eq_true rfl) rfl ?_
          refine z_goto X (tgt := 20) dX5_isWord_51 (by decide) ?_
          exact z_sub [1, 2, 0] (ih20 _ _ _) rfl
        · refine z_iconst X (v := (0 : Int32)) dX5_isWord_46 (by decide) ?_
          subst hQ; exact z_zretc X hlocks hr (by decide) dX5_isWord_47
  rw [fX5_isWord]
  refine z_aload_n X (q := 0) dX5_isWord_0 rfl rfl ?_
  refine z_geti X hK (N := 8) (ci := 5) (k := 6) rfl (by decide) inlX5 (by decide) hf_X5_28 rfl spX_X5 rfl dX5_isWord_1 (fun o8 _ => ?_)
  refine z_aload_n X (q := 0) dX5_isWord_4 rfl rfl ?_
  refine z_geti X hK (N := 8) (ci := 5) (k := 5) rfl (by decide) inlX5 (by decide) hf_X5_35 rfl spX_X5 rfl dX5_isWord_5 (fun o9 _ => ?_)
  refine z_isub X dX5_isWord_8 ?_
  refine z_aloadA_n X (q := 1) dX5_isWord_9 rfl rfl ?_
  refine z_ite (fun h11 => ?_) (fun _ => z_none)
  refine z_callA X hK (As := []) h11 (kJ0_length_8abf5 l Z spX b x _ h11 _) hk_X5_94 ⟨rfl, rfl⟩ hd_J0_length_8abf5 ⟨Nat.le_of_ble_eq_true rfl, Nat.le_of_ble_eq_true rfl⟩ ⟨Nat.le_of_ble_eq_true rfl, Nat.le_of_ble_eq_true rfl⟩ rfl rfl (Nat.le_of_ble_eq_true rfl) dX5_isWord_10 (fun q10 => ?_)
  refine z_icmp_eq X (tgt := 18) dX5_isWord_13 (by decide) (fun _ => ?_) (fun _ => ?_)
  · refine z_iconst X (v := (0 : Int32)) dX5_isWord_18 (by decide) ?_
    refine z_istore_n X dX5_isWord_19 rfl (Nat.le_of_ble_eq_true rfl) rfl ?_
    exact z_sub [1, 2, 0] (J20 _ _ _ _) rfl
  · refine z_iconst X (v := (0 : Int32)) dX5_isWord_16 (by decide) ?_
    subst hQ; exact z_zretc X hlocks hr (by decide) dX5_isWord_17
theorem zw_106 : Cond.methodLink RX5 49 yX5_isLetter ∈ wsL_law := zr_28 _ (by decide +kernel)
theorem zw_107 : Cond.static yX5_isLetter ∈ wsL_law := zr_28 _ (by decide +kernel)
theorem zw_108 : Cond.code yX5_isLetter cX5_isLetter 1 (some .boolean) ∈ wsL_law := zr_29 _ (by decide +kernel)
theorem hk_X5_49 : ∀ w ∈ ([Cond.methodLink RX5 49 yX5_isLetter, Cond.static yX5_isLetter, Cond.initialized RX5, Cond.code yX5_isLetter cX5_isLetter 1 (some .boolean)] : List Cond), w ∈ wsL_law := List.forall_mem_cons.mpr ⟨zw_106, List.forall_mem_cons.mpr ⟨zw_107, List.forall_mem_cons.mpr ⟨zw_90, List.forall_mem_cons.mpr ⟨zw_108, fun _ h => absurd h List.not_mem_nil⟩⟩⟩⟩
theorem zw_109 : Cond.methodLink RX5 66 yX5_isWord ∈ wsL_law := zr_29 _ (by decide +kernel)
theorem zw_110 : Cond.instanceMethod yX5_isWord ∈ wsL_law := zr_29 _ (by decide +kernel)
theorem zw_111 : Cond.selects RX5 yX5_isWord yX5_isWord ∈ wsL_law := zr_29 _ (by decide +kernel)
theorem zw_112 : Cond.code yX5_isWord cX5_isWord 3 (some .boolean) ∈ wsL_law := zr_29 _ (by decide +kernel)
theorem hk_X5_66 : ∀ w ∈ ([Cond.methodLink RX5 66 yX5_isWord, Cond.instanceMethod yX5_isWord, Cond.selects RX5 yX5_isWord yX5_isWord, Cond.initialized RX5, Cond.code yX5_isWord cX5_isWord 3 (some .boolean)] : List Cond), w ∈ wsL_law := List.forall_mem_cons.mpr ⟨zw_109, List.forall_mem_cons.mpr ⟨zw_110, List.forall_mem_cons.mpr ⟨zw_111, List.forall_mem_cons.mpr ⟨zw_90, List.forall_mem_cons.mpr ⟨zw_112, fun _ h => absurd h List.not_mem_nil⟩⟩⟩⟩⟩
theorem hd_X5_isLetter : yX5_isLetter.cls = RX5 ∧ yX5_isLetter.cls ≠ "java/lang/invoke/MethodHandle" ∧ yX5_isLetter.cls ≠ "java/lang/invoke/VarHandle" ∧ (parseMethodDescriptor yX5_isLetter.desc).map (fun d => d.parameters.length) = some 1 := by decide +kernel
theorem hd_X5_isWord : yX5_isWord.cls = RX5 ∧ yX5_isWord.cls ≠ "java/lang/invoke/MethodHandle" ∧ yX5_isWord.cls ≠ "java/lang/invoke/VarHandle" ∧ (parseMethodDescriptor yX5_isWord.desc).map (fun d => d.parameters.length) = some 1 := by decide +kernel
abbrev rmX5_scanWord : Room := { frames := 6, cells := 0, slots := 0, locals := 263 }
def fX5_scanWord_j39 (this : Nat) (st : zS) : Option (Int32 × zS) :=
  (zok spX st (some this) 5).bind fun o24 => (fX5_isWord o24 0 st).bind fun q1 => if q1.1 = 0 then ((zok spX q1.2 (some this) 5).bind fun o23 => (fX5_isWord o23 1 q1.2).bind fun q2 => if q2.1 = 0 then ((zok spX q2.2 (some this) 5).bind fun o22 => (fX5_isWord o22 2 q2.2).bind fun q3 => if q3.1 = 0 then ((zok spX q3.2 (some this) 5).bind fun o21 => (fX5_isWord o21 3 q3.2).bind fun q4 => if q4.1 = 0 then ((zok spX q4.2 (some this) 5).bind fun o20 => (fX5_isWord o20 4 q4.2).bind fun q5 => if q5.1 = 0 then ((zok spX q5.2 (some this) 5).bind fun o19 => (fX5_isWord o19 5 q5.2).bind fun q6 => if q6.1 = 0 then ((zok spX q6.2 (some this) 5).bind fun o18 => (fX5_isWord o18 6 q6.2).bind fun q7 => if q7.1 = 0 then ((zok spX q7.2 (some this) 5).bind fun o17 => (fX5_isWord o17 7 q7.2).bind fun q8 => if q8.1 = 0 then ((zok spX q8.2 (some this) 5).bind fun o16 => (fX5_isWord o16 8 q8.2).bind fun q9 => if q9.1 = 0 then ((zok spX q9.2 (some this) 5).bind fun o15 => (fX5_isWord o15 9 q9.2).bind fun q10 => if q10.1 = 0 then ((zok spX q10.2 (some this) 5).bind fun o14 => (fX5_isWord o14 10 q10.2).bind fun q11 => if q11.1 = 0 then ((zok spX q11.2 (some this) 5).bind fun o13 => (fX5_isWord o13 11 q11.2).bind fun q12 => if q12.1 = 0 then (some ((9 : Int32), q12.2)) else (some ((3 : Int32), q12.2))) else (some ((2 : Int32), q11.2))) else (some ((1 : Int32), q10.2))) else (some ((6 : Int32), q9.2))) else (some ((5 : Int32), q8.2))) else (some ((4 : Int32), q7.2))) else (some ((-6 : Int32), q6.2))) else (some ((-5 : Int32), q5.2))) else (some ((-4 : Int32), q4.2))) else (some ((-3 : Int32), q3.2))) else (some ((-2 : Int32), q2.2))) else (some ((-1 : Int32), q1.2))
def fX5_scanWord_L2 (this : Nat) : Nat → Int32 → zS → Option (Int32 × zS)
  | 0, _, _ => none
  | n + 1, y1, st => if (160 : Int32) ≤ y1 then (fX5_scanWord_j39 this st) else ((zok spX st (some this) 5).bind fun o25 => (zok spX st (some this) 5).bind fun o31 => (fX5_byteAt o31 (st.2.1 o25 6) st).bind fun q26 => (fX5_isLetter q26.1 q26.2).bind fun q27 => if q27.1 = 0 then (fX5_scanWord_j39 this q27.2) else ((zok spX q27.2 (some this) 5).bind fun o28 => (zok spX q27.2 (some this) 5).bind fun o29 => zlet (zp q27.2 o29 6 ((q27.2.2.1 o28 6) + (1 : Int32))) fun st30 => (fX5_scanWord_L2 this n) (y1 + (1 : Int32)) st30))
def fX5_scanWord (this : Nat) (st : zS) : Option (Int32 × zS) :=
  fX5_scanWord_L2 this zF (0 : Int32) st
set_option maxRecDepth 100000 in
set_option maxHeartbeats 4000000 in
theorem kX5_scanWord (l : Launch) (Z : zZ) (b : Nat) (x : Option Nat) (this : Nat) (st : zS) : zC l Z spX b x yX5_scanWord (.code yX5_scanWord cX5_scanWord 2 (some .int)) (rmX5_scanWord) rI [vP (some this)] st (fX5_scanWord this st) := by
  refine z_start (own := RX5) rfl (by decide +kernel) (Nat.le_of_ble_eq_true rfl) rfl (fun p e s m args below meth c res Q A X hK hr hlocks hQ => ?_)
  have J39 : ∀ (st : zS), zs p l e (rmX5_scanWord) s m args below meth c Q Z spX b x A 2 0 0 res (fX5_scanWord_j39 this st) 39 [(0, vP (some this))] [] st := by
    intro  st
    rw [fX5_scanWord_j39]
    refine z_aload_n X (q := 0) dX5_scanWord_39 rfl rfl ?_
    refine z_ldcS X hK (i := 0) (by decide) rfl rfl dX5_scanWord_40 ?_
    refine z_callV X hK (As := [vA (Z.2.2.2.1 0)]) (ci := 5) rfl (by decide) (fun o => (kX5_isWord l Z  b x o _ _)) hk_X5_66 ⟨rfl, rfl⟩ hd_X5_isWord ⟨Nat.le_of_ble_eq_true rfl, Nat.le_of_ble_eq_true rfl⟩ ⟨Nat.le_of_ble_eq_true rfl, Nat.le_of_ble_eq_true rfl⟩ rfl rfl (Nat.le_of_ble_eq_true rfl) dX5_scanWord_42 (fun _ q1 _ => ?_)
    refine z_if_eq X (tgt := 50) dX5_scanWord_45 (by decide) (fun _ => ?_) (fun _ => ?_)
    · refine z_aload_n X (q := 0) dX5_scanWord_50 rfl rfl ?_
      refine z_ldcS X hK (i := 1) (by decide) rfl rfl dX5_scanWord_51 ?_
      refine z_callV X hK (As := [vA (Z.2.2.2.1 1)]) (ci := 5) rfl (by decide) (fun o => (kX5_isWord l Z  b x o _ _)) hk_X5_66 ⟨rfl, rfl⟩ hd_X5_isWord ⟨Nat.le_of_ble_eq_true rfl, Nat.le_of_ble_eq_true rfl⟩ ⟨Nat.le_of_ble_eq_true rfl, Nat.le_of_ble_eq_true rfl⟩ rfl rfl (Nat.le_of_ble_eq_true rfl) dX5_scanWord_53 (fun _ q2 _ => ?_)
      refine z_if_eq X (tgt := 62) dX5_scanWord_56 (by decide) (fun _ => ?_) (fun _ => ?_)
      · refine z_aload_n X (q := 0) dX5_scanWord_62 rfl rfl ?_
        refine z_ldcS X hK (i := 2) (by decide) rfl rfl dX5_scanWord_63 ?_
        refine z_callV X hK (As := [vA (Z.2.2.2.1 2)]) (ci := 5) rfl (by decide) (fun o => (kX5_isWord l Z  b x o _ _)) hk_X5_66 ⟨rfl, rfl⟩ hd_X5_isWord ⟨Nat.le_of_ble_eq_true rfl, Nat.le_of_ble_eq_true rfl⟩ ⟨Nat.le_of_ble_eq_true rfl, Nat.le_of_ble_eq_true rfl⟩ rfl rfl (Nat.le_of_ble_eq_true rfl) dX5_scanWord_65 (fun _ q3 _ => ?_)
        refine z_if_eq X (tgt := 74) dX5_scanWord_68 (by decide) (fun _ => ?_) (fun _ => ?_)
        · refine z_aload_n X (q := 0) dX5_scanWord_74 rfl rfl ?_
          refine z_ldcS X hK (i := 3) (by decide) rfl rfl dX5_scanWord_75 ?_
          refine z_callV X hK (As := [vA (Z.2.2.2.1 3)]) (ci := 5) rfl (by decide) (fun o => (kX5_isWord l Z  b x o _ _)) hk_X5_66 ⟨rfl, rfl⟩ hd_X5_isWord ⟨Nat.le_of_ble_eq_true rfl, Nat.le_of_ble_eq_true rfl⟩ ⟨Nat.le_of_ble_eq_true rfl, Nat.le_of_ble_eq_true rfl⟩ rfl rfl (Nat.le_of_ble_eq_true rfl) dX5_scanWord_77 (fun _ q4 _ => ?_)
          refine z_if_eq X (tgt := 86) dX5_scanWord_80 (by decide) (fun _ => ?_) (fun _ => ?_)
          · refine z_aload_n X (q := 0) dX5_scanWord_86 rfl rfl ?_
            refine z_ldcS X hK (i := 4) (by decide) rfl rfl dX5_scanWord_87 ?_
            refine z_callV X hK (As := [vA (Z.2.2.2.1 4)]) (ci := 5) rfl (by decide) (fun o => (kX5_isWord l Z  b x o _ _)) hk_X5_66 ⟨rfl, rfl⟩ hd_X5_isWord ⟨Nat.le_of_ble_eq_true rfl, Nat.le_of_ble_eq_true rfl⟩ ⟨Nat.le_of_ble_eq_true rfl, Nat.le_of_ble_eq_true rfl⟩ rfl rfl (Nat.le_of_ble_eq_true rfl) dX5_scanWord_89 (fun _ q5 _ => ?_)
            refine z_if_eq X (tgt := 98) dX5_scanWord_92 (by decide) (fun _ => ?_) (fun _ => ?_)
            · refine z_aload_n X (q := 0) dX5_scanWord_98 rfl rfl ?_
              refine z_ldcS X hK (i := 5) (by decide) rfl rfl dX5_scanWord_99 ?_
              refine z_callV X hK (As := [vA (Z.2.2.2.1 5)]) (ci := 5) rfl (by decide) (fun o => (kX5_isWord l Z  b x o _ _)) hk_X5_66 ⟨rfl, rfl⟩ hd_X5_isWord ⟨Nat.le_of_ble_eq_true rfl, Nat.le_of_ble_eq_true rfl⟩ ⟨Nat.le_of_ble_eq_true rfl, Nat.le_of_ble_eq_true rfl⟩ rfl rfl (Nat.le_of_ble_eq_true rfl) dX5_scanWord_101 (fun _ q6 _ => ?_)
              refine z_if_eq X (tgt := 110) dX5_scanWord_104 (by decide) (fun _ => ?_) (fun _ => ?_)
              · refine z_aload_n X (q := 0) dX5_scanWord_110 rfl rfl ?_
                refine z_ldcS X hK (i := 6) (by decide) rfl rfl dX5_scanWord_111 ?_
                refine z_callV X hK (As := [vA (Z.2.2.2.1 6)]) (ci := 5) rfl (by decide) (fun o => (kX5_isWord l Z  b x o _ _)) hk_X5_66 ⟨rfl, rfl⟩ hd_X5_isWord ⟨Nat.le_of_ble_eq_true rfl, Nat.le_of_ble_eq_true rfl⟩ ⟨Nat.le_of_ble_eq_true rfl, Nat.le_of_ble_eq_true rfl⟩ rfl rfl (Nat.le_of_ble_eq_true rfl) dX5_scanWord_113 (fun _ q7 _ => ?_)
                refine z_if_eq X (tgt := 121) dX5_scanWord_116 (by decide) (fun _ => ?_) (fun _ => ?_)
                · refine z_aload_n X (q := 0) dX5_scanWord_121 rfl rfl ?_
                  refine z_ldcS X hK (i := 7) (by decide) rfl rfl dX5_scanWord_122 ?_
                  refine z_callV X hK (As := [vA (Z.2.2.2.1 7)]) (ci := 5) rfl (by decide) (fun o => (kX5_isWord l Z  b x o _ _)) hk_X5_66 ⟨rfl, rfl⟩ hd_X5_isWord ⟨Nat.le_of_ble_eq_true rfl, Nat.le_of_ble_eq_true rfl⟩ ⟨Nat.le_of_ble_eq_true rfl, Nat.le_of_ble_eq_true rfl⟩ rfl rfl (Nat.le_of_ble_eq_true rfl) dX5_scanWord_124 (fun _ q8 _ => ?_)
                  refine z_if_eq X (tgt := 132) dX5_scanWord_127 (by decide) (fun _ => ?_) (fun _ => ?_)
                  · refine z_aload_n X (q := 0) dX5_scanWord_132 rfl rfl ?_
                    refine z_ldcS X hK (i := 8) (by decide) rfl rfl dX5_scanWord_133 ?_
                    refine z_callV X hK (As := [vA (Z.2.2.2.1 8)]) (ci := 5) rfl (by decide) (fun o => (kX5_isWord l Z  b x o _ _)) hk_X5_66 ⟨rfl, rfl⟩ hd_X5_isWord ⟨Nat.le_of_ble_eq_true rfl, Nat.le_of_ble_eq_true rfl⟩ ⟨Nat.le_of_ble_eq_true rfl, Nat.le_of_ble_eq_true rfl⟩ rfl rfl (Nat.le_of_ble_eq_true rfl) dX5_scanWord_135 (fun _ q9 _ => ?_)
                    refine z_if_eq X (tgt := 144) dX5_scanWord_138 (by decide) (fun _ => ?_) (fun _ => ?_)
                    · refine z_aload_n X (q := 0) dX5_scanWord_144 rfl rfl ?_
                      refine z_ldcS X hK (i := 9) (by decide) rfl rfl dX5_scanWord_145 ?_
                      refine z_callV X hK (As := [vA (Z.2.2.2.1 9)]) (ci := 5) rfl (by decide) (fun o => (kX5_isWord l Z  b x o _ _)) hk_X5_66 ⟨rfl, rfl⟩ hd_X5_isWord ⟨Nat.le_of_ble_eq_true rfl, Nat.le_of_ble_eq_true rfl⟩ ⟨Nat.le_of_ble_eq_true rfl, Nat.le_of_ble_eq_true rfl⟩ rfl rfl (Nat.le_of_ble_eq_true rfl) dX5_scanWord_147 (fun _ q10 _ => ?_)
                      refine z_if_eq X (tgt := 155) dX5_scanWord_150 (by decide) (fun _ => ?_) (fun _ => ?_)
                      · refine z_aload_n X (q := 0) dX5_scanWord_155 rfl rfl ?_
                        refine z_ldcS X hK (i := 10) (by decide) rfl rfl dX5_scanWord_156 ?_
                        refine z_callV X hK (As := [vA (Z.2.2.2.1 10)]) (ci := 5) rfl (by decide) (fun o => (kX5_isWord l Z  b x o _ _)) hk_X5_66 ⟨rfl, rfl⟩ hd_X5_isWord ⟨Nat.le_of_ble_eq_true rfl, Nat.le_of_ble_eq_true rfl⟩ ⟨Nat.le_of_ble_eq_true rfl, Nat.le_of_ble_eq_true rfl⟩ rfl rfl (Nat.le_of_ble_eq_true rfl) dX5_scanWord_158 (fun _ q11 _ => ?_)
                        refine z_if_eq X (tgt := 166) dX5_scanWord_161 (by decide) (fun _ => ?_) (fun _ => ?_)
                        · refine z_aload_n X (q := 0) dX5_scanWord_166 rfl rfl ?_
                          refine z_ldcS X hK (i := 11) (by decide) rfl rfl dX5_scanWord_167 ?_
                          refine z_callV X hK (As := [vA (Z.2.2.2.1 11)]) (ci := 5) rfl (by decide) (fun o => (kX5_isWord l Z  b x o _ _)) hk_X5_66 ⟨rfl, rfl⟩ hd_X5_isWord ⟨Nat.le_of_ble_eq_true rfl, Nat.le_of_ble_eq_true rfl⟩ ⟨Nat.le_of_ble_eq_true rfl, Nat.le_of_ble_eq_true rfl⟩ rfl rfl (Nat.le_of_ble_eq_true rfl) dX5_scanWord_169 (fun _ q12 _ => ?_)
                          refine z_if_eq X (tgt := 179) dX5_scanWord_172 (by decide) (fun _ => ?_) (fun _ => ?_)
                          · refine z_bipush X (v := (9 : Int32)) dX5_scanWord_179 (by decide) ?_
                            subst hQ; exact z_iret X hlocks hr dX5_scanWord_181
                          · refine z_iconst X (v := (3 : Int32)) dX5_scanWord_175 (by decide) ?_
                            refine z_goto X (tgt := 181) dX5_scanWord_176 (by decide) ?_
                            subst hQ; exact z_iret X hlocks hr dX5_scanWord_181
                        · refine z_iconst X (v := (2 : Int32)) dX5_scanWord_164 (by decide) ?_
                          subst hQ; exact z_iret X hlocks hr dX5_scanWord_165
                      · refine z_iconst X (v := (1 : Int32)) dX5_scanWord_153 (by decide) ?_
                        subst hQ; exact z_iret X hlocks hr dX5_scanWord_154
                    · refine z_bipush X (v := (6 : Int32)) dX5_scanWord_141 (by decide) ?_
                      subst hQ; exact z_iret X hlocks hr dX5_scanWord_143
                  · refine z_iconst X (v := (5 : Int32)) dX5_scanWord_130 (by decide) ?_
                    subst hQ; exact z_iret X hlocks hr dX5_scanWord_131
                · refine z_iconst X (v := (4 : Int32)) dX5_scanWord_119 (by decide) ?_
                  subst hQ; exact z_iret X hlocks hr dX5_scanWord_120
              · refine z_bipush X (v := (-6 : Int32)) dX5_scanWord_107 (by decide) ?_
                subst hQ; exact z_iret X hlocks hr dX5_scanWord_109
            · refine z_bipush X (v := (-5 : Int32)) dX5_scanWord_95 (by decide) ?_
              subst hQ; exact z_iret X hlocks hr dX5_scanWord_97
          · refine z_bipush X (v := (-4 : Int32)) dX5_scanWord_83 (by decide) ?_
            subst hQ; exact z_iret X hlocks hr dX5_scanWord_85
        · refine z_bipush X (v := (-3 : Int32)) dX5_scanWord_71 (by decide) ?_
          subst hQ; exact z_iret X hlocks hr dX5_scanWord_73
      · refine z_bipush X (v := (-2 : Int32)) dX5_scanWord_59 (by decide) ?_
        subst hQ; exact z_iret X hlocks hr dX5_scanWord_61
    · refine z_iconst X (v := (-1 : Int32)) dX5_scanWord_48 (by decide) ?_
      subst hQ; exact z_iret X hlocks hr dX5_scanWord_49
  have J2 : ∀ (n2 : Nat) (y1 : Int32) (st : zS), zs p l e (rmX5_scanWord) s m args below meth c Q Z spX b x A 2 0 0 res (fX5_scanWord_L2 this n2 y1 st) 2 [(0, vP (some this)), (1, vI y1)] [] st := by
    intro n2
    induction n2 with
    | zero => intros; exact z_none
    | succ n2 ih2 =>
      intro y1 st
      rw [fX5_scanWord_L2]
      refine z_iload_n X (q := 1) dX5_scanWord_2 rfl rfl ?_
      refine z_sipush X (v := (160 : Int32)) dX5_scanWord_3 (by decide) ?_
      refine z_icmp_ge X (tgt := 39) dX5_scanWord_6 (by decide) (fun _ => ?_) (fun _ => ?_)
      · exact z_sub [0] (J39  _) rfl
      · refine z_aload_n X (q := 0) dX5_scanWord_9 rfl rfl ?_
        refine z_aload_n X (q := 0) dX5_scanWord_10 rfl rfl ?_
        refine z_geti X hK (N := 8) (ci := 5) (k := 6) rfl (by decide) inlX5 (by decide) hf_X5_28 rfl spX_X5 rfl dX5_scanWord_11 (fun o25 _ => ?_)
        refine z_callV X hK (As := [vI (st.2.1 o25 6)]) (ci := 5) rfl (by decide) (fun o => (kX5_byteAt l Z  b x o _ _)) hk_X5_41 ⟨rfl, rfl⟩ hd_X5_byteAt ⟨Nat.le_of_ble_eq_true rfl, Nat.le_of_ble_eq_true rfl⟩ ⟨Nat.le_of_ble_eq_true rfl, Nat.le_of_ble_eq_true rfl⟩ rfl rfl (Nat.le_of_ble_eq_true rfl) dX5_scanWord_14 (fun _ q26 _ => ?_)
        refine z_callS X hK (As := [vI q26.1]) (kX5_isLetter l Z  b x _ _) hk_X5_49 ⟨rfl, rfl⟩ hd_X5_isLetter.2 ⟨Nat.le_of_ble_eq_true rfl, Nat.le_of_ble_eq_true rfl⟩ ⟨Nat.le_of_ble_eq_true rfl, Nat.le_of_ble_eq_true rfl⟩ rfl rfl (Nat.le_of_ble_eq_true rfl) dX5_scanWord_17 (fun q27 => ?_)
        refine z_if_eq X (tgt := 39) dX5_scanWord_20 (by decide) (fun _ => ?_) (fun _ => ?_)
        · exact z_sub [0] (J39  _) rfl
        · refine z_aload_n X (q := 0) dX5_scanWord_23 rfl rfl ?_
          refine z_dup X dX5_scanWord_24 rfl ?_
          refine z_geti X hK (N := 8) (ci := 5) (k := 6) rfl (by decide) inlX5 (by decide) hf_X5_28 rfl spX_X5 rfl dX5_scanWord_25 (fun o28 _ => ?_)
          refine z_iconst X (v := (1 : Int32)) dX5_scanWord_28 (by decide) ?_
          refine z_iadd X dX5_scanWord_29 ?_
          refine z_puti X hK (N := 8) (ci := 5) (k := 6) rfl (by decide) inlX5 tyX5 tyX5_ok nmX5 (by decide) hf_X5_28 rfl rfl spX_X5 rfl (by decide +kernel) dX5_scanWord_30 (fun o29 st30 _ => ?_)
          refine z_iinc X (q := 1) (y := y1 + (1 : Int32)) dX5_scanWord_33 rfl rfl (Nat.le_of_ble_eq_true rfl) rfl ?_
          refine z_goto X (tgt := 2) dX5_scanWord_36 (by decide) ?_
          exact z_sub [1, 0] (ih2 _ _) rfl
  rw [fX5_scanWord]
  refine z_iconst X (v := (0 : Int32)) dX5_scanWord_0 (by decide) ?_
  refine z_istore_n X dX5_scanWord_1 rfl (Nat.le_of_ble_eq_true rfl) rfl ?_
  exact z_sub [1, 0] (J2 _ _ _) rfl
theorem zw_113 : Cond.methodLink RX5 45 yX5_isBlank ∈ wsL_law := zr_28 _ (by decide +kernel)
theorem zw_114 : Cond.static yX5_isBlank ∈ wsL_law := zr_28 _ (by decide +kernel)
theorem zw_115 : Cond.code yX5_isBlank cX5_isBlank 1 (some .boolean) ∈ wsL_law := zr_28 _ (by decide +kernel)
theorem hk_X5_45 : ∀ w ∈ ([Cond.methodLink RX5 45 yX5_isBlank, Cond.static yX5_isBlank, Cond.initialized RX5, Cond.code yX5_isBlank cX5_isBlank 1 (some .boolean)] : List Cond), w ∈ wsL_law := List.forall_mem_cons.mpr ⟨zw_113, List.forall_mem_cons.mpr ⟨zw_114, List.forall_mem_cons.mpr ⟨zw_90, List.forall_mem_cons.mpr ⟨zw_115, fun _ h => absurd h List.not_mem_nil⟩⟩⟩⟩
theorem zw_116 : Cond.methodLink RX5 52 yX5_scanWord ∈ wsL_law := zr_29 _ (by decide +kernel)
theorem zw_117 : Cond.instanceMethod yX5_scanWord ∈ wsL_law := zr_29 _ (by decide +kernel)
theorem zw_118 : Cond.selects RX5 yX5_scanWord yX5_scanWord ∈ wsL_law := zr_29 _ (by decide +kernel)
theorem zw_119 : Cond.code yX5_scanWord cX5_scanWord 2 (some .int) ∈ wsL_law := zr_29 _ (by decide +kernel)
theorem hk_X5_52 : ∀ w ∈ ([Cond.methodLink RX5 52 yX5_scanWord, Cond.instanceMethod yX5_scanWord, Cond.selects RX5 yX5_scanWord yX5_scanWord, Cond.initialized RX5, Cond.code yX5_scanWord cX5_scanWord 2 (some .int)] : List Cond), w ∈ wsL_law := List.forall_mem_cons.mpr ⟨zw_116, List.forall_mem_cons.mpr ⟨zw_117, List.forall_mem_cons.mpr ⟨zw_118, List.forall_mem_cons.mpr ⟨zw_90, List.forall_mem_cons.mpr ⟨zw_119, fun _ h => absurd h List.not_mem_nil⟩⟩⟩⟩⟩
theorem zw_120 : Cond.methodLink RX5 58 yX5_scanNumber ∈ wsL_law := zr_31 _ (by decide +kernel)
theorem zw_121 : Cond.instanceMethod yX5_scanNumber ∈ wsL_law := zr_31 _ (by decide +kernel)
theorem zw_122 : Cond.selects RX5 yX5_scanNumber yX5_scanNumber ∈ wsL_law := zr_31 _ (by decide +kernel)
theorem zw_123 : Cond.code yX5_scanNumber cX5_scanNumber 2 (some .int) ∈ wsL_law := zr_31 _ (by decide +kernel)
theorem hk_X5_58 : ∀ w ∈ ([Cond.methodLink RX5 58 yX5_scanNumber, Cond.instanceMethod yX5_scanNumber, Cond.selects RX5 yX5_scanNumber yX5_scanNumber, Cond.initialized RX5, Cond.code yX5_scanNumber cX5_scanNumber 2 (some .int)] : List Cond), w ∈ wsL_law := List.forall_mem_cons.mpr ⟨zw_120, List.forall_mem_cons.mpr ⟨zw_121, List.forall_mem_cons.mpr ⟨zw_122, List.forall_mem_cons.mpr ⟨zw_90, List.forall_mem_cons.mpr ⟨zw_123, fun _ h => absurd h List.not_mem_nil⟩⟩⟩⟩⟩
theorem zw_124 : Cond.methodLink RX5 61 yX5_isSign ∈ wsL_law := zr_31 _ (by decide +kernel)
theorem zw_125 : Cond.static yX5_isSign ∈ wsL_law := zr_31 _ (by decide +kernel)
theorem zw_126 : Cond.code yX5_isSign cX5_isSign 1 (some .boolean) ∈ wsL_law := zr_31 _ (by decide +kernel)
theorem hk_X5_61 : ∀ w ∈ ([Cond.methodLink RX5 61 yX5_isSign, Cond.static yX5_isSign, Cond.initialized RX5, Cond.code yX5_isSign cX5_isSign 1 (some .boolean)] : List Cond), w ∈ wsL_law := List.forall_mem_cons.mpr ⟨zw_124, List.forall_mem_cons.mpr ⟨zw_125, List.forall_mem_cons.mpr ⟨zw_90, List.forall_mem_cons.mpr ⟨zw_126, fun _ h => absurd h List.not_mem_nil⟩⟩⟩⟩
theorem hd_X5_isBlank : yX5_isBlank.cls = RX5 ∧ yX5_isBlank.cls ≠ "java/lang/invoke/MethodHandle" ∧ yX5_isBlank.cls ≠ "java/lang/invoke/VarHandle" ∧ (parseMethodDescriptor yX5_isBlank.desc).map (fun d => d.parameters.length) = some 1 := by decide +kernel
theorem hd_X5_isSign : yX5_isSign.cls = RX5 ∧ yX5_isSign.cls ≠ "java/lang/invoke/MethodHandle" ∧ yX5_isSign.cls ≠ "java/lang/invoke/VarHandle" ∧ (parseMethodDescriptor yX5_isSign.desc).map (fun d => d.parameters.length) = some 1 := by decide +kernel
theorem hd_X5_scanNumber : yX5_scanNumber.cls = RX5 ∧ yX5_scanNumber.cls ≠ "java/lang/invoke/MethodHandle" ∧ yX5_scanNumber.cls ≠ "java/lang/invoke/VarHandle" ∧ (parseMethodDescriptor yX5_scanNumber.desc).map (fun d => d.parameters.length) = some 0 := by decide +kernel
theorem hd_X5_scanWord : yX5_scanWord.cls = RX5 ∧ yX5_scanWord.cls ≠ "java/lang/invoke/MethodHandle" ∧ yX5_scanWord.cls ≠ "java/lang/invoke/VarHandle" ∧ (parseMethodDescriptor yX5_scanWord.desc).map (fun d => d.parameters.length) = some 0 := by decide +kernel
abbrev rmX5_scanOne : Room := { frames := 7, cells := 0, slots := 0, locals := 284 }
def fX5_scanOne_j47 (this : Nat) (st : zS) : Option (Int32 × zS) :=
  (zok spX st (some this) 5).bind fun o1 => (zok spX st (some this) 5).bind fun o16 => (fX5_byteAt o16 (st.2.1 o1 5) st).bind fun q2 => zlet (q2.1) fun v3 => (zok spX q2.2 (some this) 5).bind fun o4 => (zok spX q2.2 (some this) 5).bind fun o5 => zlet (zp q2.2 o5 6 ((q2.2.2.1 o4 5) + (1 : Int32))) fun st6 => (zok spX st6 (some this) 5).bind fun o7 => zlet (zp st6 o7 7 (0 : Int32)) fun st8 => if v3 = (-1 : Int32) then (some ((8 : Int32), st8)) else ((fX5_isLetter v3 st8).bind fun q9 => if q9.1 = 0 then ((fX5_isDigit v3 q9.2).bind fun q10 => if q10.1 = 0 then ((fX5_isSign v3 q10.2).bind fun q11 => if q11.1 = 0 then (some ((9 : Int32), q11.2)) else (some (v3, q11.2))) else ((zok spX q10.2 (some this) 5).bind fun o13 => (fX5_scanNumber o13 q10.2).bind fun q12 => some (q12.1, q12.2))) else ((zok spX q9.2 (some this) 5).bind fun o15 => (fX5_scanWord o15 q9.2).bind fun q14 => some (q14.1, q14.2)))
def fX5_scanOne_L10 (this : Nat) : Nat → Int32 → zS → Option (Int32 × zS)
  | 0, _, _ => none
  | n + 1, y1, st => if (160 : Int32) ≤ y1 then (fX5_scanOne_j47 this st) else ((zok spX st (some this) 5).bind fun o17 => (zok spX st (some this) 5).bind fun o23 => (fX5_byteAt o23 (st.2.1 o17 5) st).bind fun q18 => (fX5_isBlank q18.1 q18.2).bind fun q19 => if q19.1 = 0 then (fX5_scanOne_j47 this q19.2) else ((zok spX q19.2 (some this) 5).bind fun o20 => (zok spX q19.2 (some this) 5).bind fun o21 => zlet (zp q19.2 o21 5 ((q19.2.2.1 o20 5) + (1 : Int32))) fun st22 => (fX5_scanOne_L10 this n) (y1 + (1 : Int32)) st22))
def fX5_scanOne (this : Nat) (st : zS) : Option (Int32 × zS) :=
  (zok spX st (some this) 5).bind fun o24 => (zok spX st (some this) 5).bind fun o25 => zlet (zp st o25 5 (st.2.1 o24 6)) fun st26 => fX5_scanOne_L10 this zF (0 : Int32) st26
set_option maxRecDepth 100000 in
set_option maxHeartbeats 4000000 in
theorem kX5_scanOne (l : Launch) (Z : zZ) (b : Nat) (x : Option Nat) (this : Nat) (st : zS) : zC l Z spX b x yX5_scanOne (.code yX5_scanOne cX5_scanOne 2 (some .int)) (rmX5_scanOne) rI [vP (some this)] st (fX5_scanOne this st) := by
  refine z_start (own := RX5) rfl (by decide +kernel) (Nat.le_of_ble_eq_true rfl) rfl (fun p e s m args below meth c res Q A X hK hr hlocks hQ => ?_)
  have J47 : ∀ (st : zS), zs p l e (rmX5_scanOne) s m args below meth c Q Z spX b x A 2 0 0 res (fX5_scanOne_j47 this st) 47 [(0, vP (some this))] [] st := by
    intro  st
    rw [fX5_scanOne_j47]
    refine z_aload_n X (q := 0) dX5_scanOne_47 rfl rfl ?_
    refine z_aload_n X (q := 0) dX5_scanOne_48 rfl rfl ?_
    refine z_geti X hK (N := 8) (ci := 5) (k := 5) rfl (by decide) inlX5 (by decide) hf_X5_35 rfl spX_X5 rfl dX5_scanOne_49 (fun o1 _ => ?_)
    refine z_callV X hK (As := [vI (st.2.1 o1 5)]) (ci := 5) rfl (by decide) (fun o => (kX5_byteAt l Z  b x o _ _)) hk_X5_41 ⟨rfl, rfl⟩ hd_X5_byteAt ⟨Nat.le_of_ble_eq_true rfl, Nat.le_of_ble_eq_true rfl⟩ ⟨Nat.le_of_ble_eq_true rfl, Nat.le_of_ble_eq_true rfl⟩ rfl rfl (Nat.le_of_ble_eq_true rfl) dX5_scanOne_52 (fun _ q2 _ => ?_)
    refine z_name (fun v3 => ?_)
    refine z_istore_n X dX5_scanOne_55 rfl (Nat.le_of_ble_eq_true rfl) rfl ?_
    refine z_aload_n X (q := 1) dX5_scanOne_56 rfl rfl ?_
    refine z_aload_n X (q := 1) dX5_scanOne_57 rfl rfl ?_
    refine z_geti X hK (N := 8) (ci := 5) (k := 5) rfl (by decide) inlX5 (by decide) hf_X5_35 rfl spX_X5 rfl dX5_scanOne_58 (fun o4 _ => ?_)
    refine z_iconst X (v := (1 : Int32)) dX5_scanOne_61 (by decide) ?_
    refine z_iadd X dX5_scanOne_62 ?_
    refine z_puti X hK (N := 8) (ci := 5) (k := 6) rfl (by decide) inlX5 tyX5 tyX5_ok nmX5 (by decide) hf_X5_28 rfl rfl spX_X5 rfl (by decide +kernel) dX5_scanOne_63 (fun o5 st6 _ => ?_)
    refine z_aload_n X (q := 1) dX5_scanOne_66 rfl rfl ?_
    refine z_iconst X (v := (0 : Int32)) dX5_scanOne_67 (by decide) ?_
    refine z_puti X hK (N := 8) (ci := 5) (k := 7) rfl (by decide) inlX5 tyX5 tyX5_ok nmX5 (by decide) hf_X5_38 rfl rfl spX_X5 rfl (by decide +kernel) dX5_scanOne_68 (fun o7 st8 _ => ?_)
    refine z_iload_n X (q := 0) dX5_scanOne_71 rfl rfl ?_
    refine z_iconst X (v := (-1 : Int32)) dX5_scanOne_72 (by decide) ?_
    refine z_icmp_ne X (tgt := 79) dX5_scanOne_73 (by decide) (fun _ => ?_) (fun _ => ?_)
    · refine z_iload_n X (q := 0) dX5_scanOne_79 rfl rfl ?_
      refine z_callS X hK (As := [vI v3]) (kX5_isLetter l Z  b x _ _) hk_X5_49 ⟨rfl, rfl⟩ hd_X5_isLetter.2 ⟨Nat.le_of_ble_eq_true rfl, Nat.le_of_ble_eq_true rfl⟩ ⟨Nat.le_of_ble_eq_true rfl, Nat.le_of_ble_eq_true rfl⟩ rfl rfl (Nat.le_of_ble_eq_true rfl) dX5_scanOne_80 (fun q9 => ?_)
      refine z_if_eq X (tgt := 91) dX5_scanOne_83 (by decide) (fun _ => ?_) (fun _ => ?_)
      · refine z_iload_n X (q := 0) dX5_scanOne_91 rfl rfl ?_
        refine z_callS X hK (As := [vI v3]) (kX5_isDigit l Z  b x _ _) hk_X5_55 ⟨rfl, rfl⟩ hd_X5_isDigit.2 ⟨Nat.le_of_ble_eq_true rfl, Nat.le_of_ble_eq_true rfl⟩ ⟨Nat.le_of_ble_eq_true rfl, Nat.le_of_ble_eq_true rfl⟩ rfl rfl (Nat.le_of_ble_eq_true rfl) dX5_scanOne_92 (fun q10 => ?_)
        refine z_if_eq X (tgt := 103) dX5_scanOne_95 (by decide) (fun _ => ?_) (fun _ => ?_)
        · refine z_iload_n X (q := 0) dX5_scanOne_103 rfl rfl ?_
          refine z_callS X hK (As := [vI v3]) (kX5_isSign l Z  b x _ _) hk_X5_61 ⟨rfl, rfl⟩ hd_X5_isSign.2 ⟨Nat.le_of_ble_eq_true rfl, Nat.le_of_ble_eq_true rfl⟩ ⟨Nat.le_of_ble_eq_true rfl, Nat.le_of_ble_eq_true rfl⟩ rfl rfl (Nat.le_of_ble_eq_true rfl) dX5_scanOne_104 (fun q11 => ?_)
          refine z_if_eq X (tgt := 114) dX5_scanOne_107 (by decide) (fun _ => ?_) (fun _ => ?_)
          · refine z_bipush X (v := (9 : Int32)) dX5_scanOne_114 (by decide) ?_
            subst hQ; exact z_iret X hlocks hr dX5_scanOne_116
          · refine z_iload_n X (q := 0) dX5_scanOne_110 rfl rfl ?_
            refine z_goto X (tgt := 116) dX5_scanOne_111 (by decide) ?_
            subst hQ; exact z_iret X hlocks hr dX5_scanOne_116
        · refine z_aload_n X (q := 1) dX5_scanOne_98 rfl rfl ?_
          refine z_callV X hK (As := []) (ci := 5) rfl (by decide) (fun o => (kX5_scanNumber l Z  b x o _)) hk_X5_58 ⟨rfl, rfl⟩ hd_X5_scanNumber ⟨Nat.le_of_ble_eq_true rfl, Nat.le_of_ble_eq_true rfl⟩ ⟨Nat.le_of_ble_eq_true rfl, Nat.le_of_ble_eq_true rfl⟩ rfl rfl (Nat.le_of_ble_eq_true rfl) dX5_scanOne_99 (fun _ q12 _ => ?_)
          subst hQ; exact z_iret X hlocks hr dX5_scanOne_102
      · refine z_aload_n X (q := 1) dX5_scanOne_86 rfl rfl ?_
        refine z_callV X hK (As := []) (ci := 5) rfl (by decide) (fun o => (kX5_scanWord l Z  b x o _)) hk_X5_52 ⟨rfl, rfl⟩ hd_X5_scanWord ⟨Nat.le_of_ble_eq_true rfl, Nat.le_of_ble_eq_true rfl⟩ ⟨Nat.le_of_ble_eq_true rfl, Nat.le_of_ble_eq_true rfl⟩ rfl rfl (Nat.le_of_ble_eq_true rfl) dX5_scanOne_87 (fun _ q14 _ => ?_)
        subst hQ; exact z_iret X hlocks hr dX5_scanOne_90
    · refine z_bipush X (v := (8 : Int32)) dX5_scanOne_76 (by decide) ?_
      subst hQ; exact z_iret X hlocks hr dX5_scanOne_78
  have J10 : ∀ (n10 : Nat) (y1 : Int32) (st : zS), zs p l e (rmX5_scanOne) s m args below meth c Q Z spX b x A 2 0 0 res (fX5_scanOne_L10 this n10 y1 st) 10 [(0, vP (some this)), (1, vI y1)] [] st := by
    intro n10
    induction n10 with
    | zero => intros; exact z_none
    | succ n10 ih10 =>
      intro y1 st
      rw [fX5_scanOne_L10]
      refine z_iload_n X (q := 1) dX5_scanOne_10 rfl rfl ?_
      refine z_sipush X (v := (160 : Int32)) dX5_scanOne_11 (by decide) ?_
      refine z_icmp_ge X (tgt := 47) dX5_scanOne_14 (by decide) (fun _ => ?_) (fun _ => ?_)
      · exact z_sub [0] (J47  _) rfl
      · refine z_aload_n X (q := 0) dX5_scanOne_17 rfl rfl ?_
        refine z_aload_n X (q := 0) dX5_scanOne_18 rfl rfl ?_
        refine z_geti X hK (N := 8) (ci := 5) (k := 5) rfl (by decide) inlX5 (by decide) hf_X5_35 rfl spX_X5 rfl dX5_scanOne_19 (fun o17 _ => ?_)
        refine z_callV X hK (As := [vI (st.2.1 o17 5)]) (ci := 5) rfl (by decide) (fun o => (kX5_byteAt l Z  b x o _ _)) hk_X5_41 ⟨rfl, rfl⟩ hd_X5_byteAt ⟨Nat.le_of_ble_eq_true rfl, Nat.le_of_ble_eq_true rfl⟩ ⟨Nat.le_of_ble_eq_true rfl, Nat.le_of_ble_eq_true rfl⟩ rfl rfl (Nat.le_of_ble_eq_true rfl) dX5_scanOne_22 (fun _ q18 _ => ?_)
        refine z_callS X hK (As := [vI q18.1]) (kX5_isBlank l Z  b x _ _) hk_X5_45 ⟨rfl, rfl⟩ hd_X5_isBlank.2 ⟨Nat.le_of_ble_eq_true rfl, Nat.le_of_ble_eq_true rfl⟩ ⟨Nat.le_of_ble_eq_true rfl, Nat.le_of_ble_eq_true rfl⟩ rfl rfl (Nat.le_of_ble_eq_true rfl) dX5_scanOne_25 (fun q19 => ?_)
        refine z_if_eq X (tgt := 47) dX5_scanOne_28 (by decide) (fun _ => ?_) (fun _ => ?_)
        · exact z_sub [0] (J47  _) rfl
        · refine z_aload_n X (q := 0) dX5_scanOne_31 rfl rfl ?_
          refine z_dup X dX5_scanOne_32 rfl ?_
          refine z_geti X hK (N := 8) (ci := 5) (k := 5) rfl (by decide) inlX5 (by decide) hf_X5_35 rfl spX_X5 rfl dX5_scanOne_33 (fun o20 _ => ?_)
          refine z_iconst X (v := (1 : Int32)) dX5_scanOne_36 (by decide) ?_
          refine z_iadd X dX5_scanOne_37 ?_
          refine z_puti X hK (N := 8) (ci := 5) (k := 5) rfl (by decide) inlX5 tyX5 tyX5_ok nmX5 (by decide) hf_X5_35 rfl rfl spX_X5 rfl (by decide +kernel) dX5_scanOne_38 (fun o21 st22 _ => ?_)
          refine z_iinc X (q := 1) (y := y1 + (1 : Int32)) dX5_scanOne_41 rfl rfl (Nat.le_of_ble_eq_true rfl) rfl ?_
          refine z_goto X (tgt := 10) dX5_scanOne_44 (by decide) ?_
          exact z_sub [1, 0] (ih10 _ _) rfl
  rw [fX5_scanOne]
  refine z_aload_n X (q := 0) dX5_scanOne_0 rfl rfl ?_
  refine z_aload_n X (q := 0) dX5_scanOne_1 rfl rfl ?_
  refine z_geti X hK (N := 8) (ci := 5) (k := 6) rfl (by decide) inlX5 (by decide) hf_X5_28 rfl spX_X5 rfl dX5_scanOne_2 (fun o24 _ => ?_)
  refine z_puti X hK (N := 8) (ci := 5) (k := 5) rfl (by decide) inlX5 tyX5 tyX5_ok nmX5 (by decide) hf_X5_35 rfl rfl spX_X5 rfl (by decide +kernel) dX5_scanOne_5 (fun o25 st26 _ => ?_)
  refine z_iconst X (v := (0 : Int32)) dX5_scanOne_8 (by decide) ?_
  refine z_istore_n X dX5_scanOne_9 rfl (Nat.le_of_ble_eq_true rfl) rfl ?_
  exact z_sub [1, 0] (J10 _ _ _) rfl
theorem zw_127 : Cond.methodLink RX5 31 yX5_scanOne ∈ wsL_law := zr_28 _ (by decide +kernel)
theorem zw_128 : Cond.instanceMethod yX5_scanOne ∈ wsL_law := zr_28 _ (by decide +kernel)
theorem zw_129 : Cond.selects RX5 yX5_scanOne yX5_scanOne ∈ wsL_law := zr_28 _ (by decide +kernel)
theorem zw_130 : Cond.code yX5_scanOne cX5_scanOne 2 (some .int) ∈ wsL_law := zr_28 _ (by decide +kernel)
theorem hk_X5_31 : ∀ w ∈ ([Cond.methodLink RX5 31 yX5_scanOne, Cond.instanceMethod yX5_scanOne, Cond.selects RX5 yX5_scanOne yX5_scanOne, Cond.initialized RX5, Cond.code yX5_scanOne cX5_scanOne 2 (some .int)] : List Cond), w ∈ wsL_law := List.forall_mem_cons.mpr ⟨zw_127, List.forall_mem_cons.mpr ⟨zw_128, List.forall_mem_cons.mpr ⟨zw_129, List.forall_mem_cons.mpr ⟨zw_90, List.forall_mem_cons.mpr ⟨zw_130, fun _ h => absurd h List.not_mem_nil⟩⟩⟩⟩⟩
theorem hd_X5_scanOne : yX5_scanOne.cls = RX5 ∧ yX5_scanOne.cls ≠ "java/lang/invoke/MethodHandle" ∧ yX5_scanOne.cls ≠ "java/lang/invoke/VarHandle" ∧ (parseMethodDescriptor yX5_scanOne.desc).map (fun d => d.parameters.length) = some 0 := by decide +kernel
abbrev rmX5_scan : Room := { frames := 8, cells := 0, slots := 0, locals := 305 }
def fX5_scan_L15 (this : Nat) : Nat → Int32 → Int32 → zS → Option (Unit × zS)
  | 0, _, _, _ => none
  | n + 1, y2, y3, st => (zok spX st (some this) 5).bind fun o1 => (zla spX st (st.2.2.2 o1 1)).bind fun o2 => if (Int32.ofNat (spX o2).2) ≤ y3 then (some ((), st)) else (if y2 = (8 : Int32) then (some ((), st)) else (if y2 = (9 : Int32) then (some ((), st)) else ((zok spX st (some this) 5).bind fun o19 => (fX5_scanOne o19 st).bind fun q3 => zlet (q3.1) fun v4 => (zok spX q3.2 (some this) 5).bind fun o5 => (zok spX q3.2 (q3.2.2.2.2 o5 1) 9).bind fun o6 => (zix spX o6 y3).bind fun j7 => zlet (zp q3.2 o6 j7 v4) fun st8 => (zok spX st8 (some this) 5).bind fun o9 => (zok spX st8 (some this) 5).bind fun o10 => (zok spX st8 (st8.2.2.2 o9 2) 9).bind fun o11 => (zix spX o11 y3).bind fun j12 => zlet (zp st8 o11 j12 (st8.2.1 o10 5)) fun st13 => (zok spX st13 (some this) 5).bind fun o14 => (zok spX st13 (some this) 5).bind fun o15 => (zok spX st13 (st13.2.2.2 o14 3) 9).bind fun o16 => (zix spX o16 y3).bind fun j17 => zlet (zp st13 o16 j17 (st13.2.1 o15 7)) fun st18 => (fX5_scan_L15 this n) v4 (y3 + (1 : Int32)) st18)))
def fX5_scan (this : Nat) (a1 : Int32) (st : zS) : Option (Unit × zS) :=
  (zok spX st (some this) 5).bind fun o20 => zlet (zp st o20 4 a1) fun st21 => (zok spX st21 (some this) 5).bind fun o22 => zlet (zp st21 o22 6 (0 : Int32)) fun st23 => fX5_scan_L15 this zF (7 : Int32) (0 : Int32) st23
set_option maxRecDepth 100000 in
set_option maxHeartbeats 4000000 in
theorem kX5_scan (l : Launch) (Z : zZ) (b : Nat) (x : Option Nat) (this : Nat) (a1 : Int32) (st : zS) : zC l Z spX b x yX5_scan (.code yX5_scan cX5_scan 4 none) (rmX5_scan) rV [vP (some this), vI a1] st (fX5_scan this a1 st) := by
  refine z_start (own := RX5) rfl (by decide +kernel) (Nat.le_of_ble_eq_true rfl) rfl (fun p e s m args below meth c res Q A X hK hr hlocks hQ => ?_)
  have J15 : ∀ (n15 : Nat) (y2 : Int32) (y3 : Int32) (st : zS), zs p l e (rmX5_scan) s m args below meth c Q Z spX b x A 4 0 0 res (fX5_scan_L15 this n15 y2 y3 st) 15 [(0, vP (some this)), (2, vI y2), (3, vI y3)] [] st := by
    intro n15
    induction n15 with
    | zero => intros; exact z_none
    | succ n15 ih15 =>
      intro y2 y3 st
      rw [fX5_scan_L15]
      refine z_iload_n X (q := 2) dX5_scan_15 rfl rfl ?_
      refine z_aload_n X (q := 0) dX5_scan_16 rfl rfl ?_
      refine z_getr X hK (N := 8) (ci := 5) (k := 1) rfl (by decide) inlX5 (by decide) hf_X5_9 rfl spX_X5 rfl dX5_scan_17 (fun o1 _ => ?_)
      refine z_alen X hK dX5_scan_20 spX_14 (fun o2 _ => ?_)
      refine z_icmp_ge X (tgt := 74) dX5_scan_21 (by decide) (fun _ => ?_) (fun _ => ?_)
      · subst hQ; exact z_vret X hlocks hr dX5_scan_74
      · refine z_iload_n X (q := 1) dX5_scan_24 rfl rfl ?_
        refine z_bipush X (v := (8 : Int32)) dX5_scan_25 (by decide) ?_
        refine z_icmp_eq X (tgt := 74) dX5_scan_27 (by decide) (fun _ => ?_) (fun _ => ?_)
        · subst hQ; exact z_vret X hlocks hr dX5_scan_74
        · refine z_iload_n X (q := 1) dX5_scan_30 rfl rfl ?_
          refine z_bipush X (v := (9 : Int32)) dX5_scan_31 (by decide) ?_
          refine z_icmp_eq X (tgt := 74) dX5_scan_33 (by decide) (fun _ => ?_) (fun _ => ?_)
          · subst hQ; exact z_vret X hlocks hr dX5_scan_74
          · refine z_aload_n X (q := 0) dX5_scan_36 rfl rfl ?_
            refine z_callV X hK (As := []) (ci := 5) rfl (by decide) (fun o => (kX5_scanOne l Z  b x o _)) hk_X5_31 ⟨rfl, rfl⟩ hd_X5_scanOne ⟨Nat.le_of_ble_eq_true rfl, Nat.le_of_ble_eq_true rfl⟩ ⟨Nat.le_of_ble_eq_true rfl, Nat.le_of_ble_eq_true rfl⟩ rfl rfl (Nat.le_of_ble_eq_true rfl) dX5_scan_37 (fun _ q3 _ => ?_)
            refine z_name (fun v4 => ?_)
            refine z_istore_n X dX5_scan_40 rfl (Nat.le_of_ble_eq_true rfl) rfl ?_
            refine z_aload_n X (q := 1) dX5_scan_41 rfl rfl ?_
            refine z_getr X hK (N := 8) (ci := 5) (k := 1) rfl (by decide) inlX5 (by decide) hf_X5_9 rfl spX_X5 rfl dX5_scan_42 (fun o5 _ => ?_)
            refine z_iload_n X (q := 2) dX5_scan_45 rfl rfl ?_
            refine z_iload_n X (q := 0) dX5_scan_46 rfl rfl ?_
            refine z_iast X hK dX5_scan_47 (fun o6 j7 st8 _ _ => ?_)
            refine z_aload_n X (q := 1) dX5_scan_48 rfl rfl ?_
            refine z_getr X hK (N := 8) (ci := 5) (k := 2) rfl (by decide) inlX5 (by decide) hf_X5_15 rfl spX_X5 rfl dX5_scan_49 (fun o9 _ => ?_)
            refine z_iload_n X (q := 2) dX5_scan_52 rfl rfl ?_
            refine z_aload_n X (q := 1) dX5_scan_53 rfl rfl ?_
            refine z_geti X hK (N := 8) (ci := 5) (k := 5) rfl (by decide) inlX5 (by decide) hf_X5_35 rfl spX_X5 rfl dX5_scan_54 (fun o10 _ => ?_)
            refine z_iast X hK dX5_scan_57 (fun o11 j12 st13 _ _ => ?_)
            refine z_aload_n X (q := 1) dX5_scan_58 rfl rfl ?_
            refine z_getr X hK (N := 8) (ci := 5) (k := 3) rfl (by decide) inlX5 (by decide) hf_X5_18 rfl spX_X5 rfl dX5_scan_59 (fun o14 _ => ?_)
            refine z_iload_n X (q := 2) dX5_scan_62 rfl rfl ?_
            refine z_aload_n X (q := 1) dX5_scan_63 rfl rfl ?_
            refine z_geti X hK (N := 8) (ci := 5) (k := 7) rfl (by decide) inlX5 (by decide) hf_X5_38 rfl spX_X5 rfl dX5_scan_64 (fun o15 _ => ?_)
            refine z_iast X hK dX5_scan_67 (fun o16 j17 st18 _ _ => ?_)
            refine z_iinc X (q := 2) (y := y3 + (1 : Int32)) dX5_scan_68 rfl rfl (Nat.le_of_ble_eq_true rfl) rfl ?_
            refine z_goto X (tgt := 15) dX5_scan_71 (by decide) ?_
            exact z_sub [2, 1, 0] (ih15 _ _ _) rfl
  rw [fX5_scan]
  refine z_aload_n X (q := 0) dX5_scan_0 rfl rfl ?_
  refine z_iload_n X (q := 1) dX5_scan_1 rfl rfl ?_
  refine z_puti X hK (N := 8) (ci := 5) (k := 4) rfl (by decide) inlX5 tyX5 tyX5_ok nmX5 (by decide) hf_X5_24 rfl rfl spX_X5 rfl (by decide +kernel) dX5_scan_2 (fun o20 st21 _ => ?_)
  refine z_aload_n X (q := 0) dX5_scan_5 rfl rfl ?_
  refine z_iconst X (v := (0 : Int32)) dX5_scan_6 (by decide) ?_
  refine z_puti X hK (N := 8) (ci := 5) (k := 6) rfl (by decide) inlX5 tyX5 tyX5_ok nmX5 (by decide) hf_X5_28 rfl rfl spX_X5 rfl (by decide +kernel) dX5_scan_7 (fun o22 st23 _ => ?_)
  refine z_bipush X (v := (7 : Int32)) dX5_scan_10 (by decide) ?_
  refine z_istore_n X dX5_scan_12 rfl (Nat.le_of_ble_eq_true rfl) rfl ?_
  refine z_iconst X (v := (0 : Int32)) dX5_scan_13 (by decide) ?_
  refine z_istore_n X dX5_scan_14 rfl (Nat.le_of_ble_eq_true rfl) rfl ?_
  exact z_sub [2, 1, 0] (J15 _ _ _ _) rfl
