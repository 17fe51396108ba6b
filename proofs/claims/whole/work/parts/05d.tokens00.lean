theorem zw_53 : Cond.fieldLink RX5 9 "WellGivesOther$Tokens" "sorts" "[I" ∈ wsL_law := zr_3 _ (by decide +kernel)
theorem hf_X5_9 : Cond.fieldLink RX5 9 "WellGivesOther$Tokens" "sorts" "[I" ∈ wsL_law := zw_53
abbrev rmX5_sortOf : Room := { frames := 1, cells := 0, slots := 0, locals := 40 }
def fX5_sortOf_j22 (this : Nat) (st : zS) : Option (Int32 × zS) :=
  some ((8 : Int32), st)
def fX5_sortOf (this : Nat) (a1 : Int32) (st : zS) : Option (Int32 × zS) :=
  if a1 < 0 then (fX5_sortOf_j22 this st) else ((zok spX st (some this) 5).bind fun o1 => (zla spX st (st.2.2.2 o1 1)).bind fun o2 => if (Int32.ofNat (spX o2).2) ≤ a1 then (fX5_sortOf_j22 this st) else ((zok spX st (some this) 5).bind fun o3 => (zok spX st (st.2.2.2 o3 1) 9).bind fun o4 => (zix spX o4 a1).bind fun j5 => some ((st.2.1 o4 j5), st)))
set_option maxRecDepth 100000 in
set_option maxHeartbeats 4000000 in
theorem kX5_sortOf (l : Launch) (Z : zZ) (b : Nat) (x : Option Nat) (this : Nat) (a1 : Int32) (st : zS) : zC l Z spX b x yX5_sortOf (.code yX5_sortOf cX5_sortOf 2 (some .int)) rmX5_sortOf rI [vP (some this), vI a1] st (fX5_sortOf this a1 st) := by
  refine z_start (own := RX5) rfl (by decide +kernel) (Nat.le_of_ble_eq_true rfl) rfl (fun p e s m args below meth c res Q A X hK hr hlocks hQ => ?_)
  have J22 : ∀ (st : zS), zs p l e rmX5_sortOf s m args below meth c Q Z spX b x A 2 0 0 res (fX5_sortOf_j22 this st) 22 [] [] st := by
    intro  st
    rw [fX5_sortOf_j22]
    refine z_bipush X (v := (8 : Int32)) dX5_sortOf_22 (by decide) ?_
    subst hQ; exact z_iret X hlocks hr dX5_sortOf_24
  rw [fX5_sortOf]
  refine z_iload_n X (q := 1) dX5_sortOf_0 rfl rfl ?_
  refine z_if_lt X (tgt := 22) dX5_sortOf_1 (by decide) (fun _ => ?_) (fun _ => ?_)
  · exact z_sub [] (J22  _) rfl
  · refine z_iload_n X (q := 1) dX5_sortOf_4 rfl rfl ?_
    refine z_aload_n X (q := 0) dX5_sortOf_5 rfl rfl ?_
    refine z_getr X hK (N := 8) (ci := 5) (k := 1) rfl (by decide) inlX5 (by decide) hf_X5_9 rfl spX_X5 rfl dX5_sortOf_6 (fun o1 _ => ?_)
    refine z_alen X hK dX5_sortOf_9 spX_14 (fun o2 _ => ?_)
    refine z_icmp_ge X (tgt := 22) dX5_sortOf_10 (by decide) (fun _ => ?_) (fun _ => ?_)
    · exact z_sub [] (J22  _) rfl
    · refine z_aload_n X (q := 0) dX5_sortOf_13 rfl rfl ?_
      refine z_getr X hK (N := 8) (ci := 5) (k := 1) rfl (by decide) inlX5 (by decide) hf_X5_9 rfl spX_X5 rfl dX5_sortOf_14 (fun o3 _ => ?_)
      refine z_iload_n X (q := 1) dX5_sortOf_17 rfl rfl ?_
      refine z_iald X hK dX5_sortOf_18 (fun o4 j5 _ _ => ?_)
      refine z_goto X (tgt := 24) dX5_sortOf_19 (by decide) ?_
      subst hQ; exact z_iret X hlocks hr dX5_sortOf_24
theorem zw_54 : Cond.fieldLink RX5 15 "WellGivesOther$Tokens" "starts" "[I" ∈ wsL_law := zr_3 _ (by decide +kernel)
theorem hf_X5_15 : Cond.fieldLink RX5 15 "WellGivesOther$Tokens" "starts" "[I" ∈ wsL_law := zw_54
theorem zw_55 : Cond.fieldLink RX5 24 "WellGivesOther$Tokens" "size" "I" ∈ wsL_law := zr_28 _ (by decide +kernel)
theorem hf_X5_24 : Cond.fieldLink RX5 24 "WellGivesOther$Tokens" "size" "I" ∈ wsL_law := zw_55
abbrev rmX5_startOf : Room := { frames := 1, cells := 0, slots := 0, locals := 40 }
def fX5_startOf_j22 (this : Nat) (st : zS) : Option (Int32 × zS) :=
  (zok spX st (some this) 5).bind fun o1 => some ((st.2.1 o1 4), st)
def fX5_startOf (this : Nat) (a1 : Int32) (st : zS) : Option (Int32 × zS) :=
  if a1 < 0 then (fX5_startOf_j22 this st) else ((zok spX st (some this) 5).bind fun o2 => (zla spX st (st.2.2.2 o2 2)).bind fun o3 => if (Int32.ofNat (spX o3).2) ≤ a1 then (fX5_startOf_j22 this st) else ((zok spX st (some this) 5).bind fun o4 => (zok spX st (st.2.2.2 o4 2) 9).bind fun o5 => (zix spX o5 a1).bind fun j6 => some ((st.2.1 o5 j6), st)))
set_option maxRecDepth 100000 in
set_option maxHeartbeats 4000000 in
theorem kX5_startOf (l : Launch) (Z : zZ) (b : Nat) (x : Option Nat) (this : Nat) (a1 : Int32) (st : zS) : zC l Z spX b x yX5_startOf (.code yX5_startOf cX5_startOf 2 (some .int)) rmX5_startOf rI [vP (some this), vI a1] st (fX5_startOf this a1 st) := by
  refine z_start (own := RX5) rfl (by decide +kernel) (Nat.le_of_ble_eq_true rfl) rfl (fun p e s m args below meth c res Q A X hK hr hlocks hQ => ?_)
  have J22 : ∀ (st : zS), zs p l e rmX5_startOf s m args below meth c Q Z spX b x A 2 0 0 res (fX5_startOf_j22 this st) 22 [(0, vP (some this))] [] st := by
    intro  st
    rw [fX5_startOf_j22]
    refine z_aload_n X (q := 0) dX5_startOf_22 rfl rfl ?_
    refine z_geti X hK (N := 8) (ci := 5) (k := 4) rfl (by decide) inlX5 (by decide) hf_X5_24 rfl spX_X5 rfl dX5_startOf_23 (fun o1 _ => ?_)
    subst hQ; exact z_iret X hlocks hr dX5_startOf_26
  rw [fX5_startOf]
  refine z_iload_n X (q := 1) dX5_startOf_0 rfl rfl ?_
  refine z_if_lt X (tgt := 22) dX5_startOf_1 (by decide) (fun _ => ?_) (fun _ => ?_)
  · exact z_sub [0] (J22  _) rfl
  · refine z_iload_n X (q := 1) dX5_startOf_4 rfl rfl ?_
    refine z_aload_n X (q := 0) dX5_startOf_5 rfl rfl ?_
    refine z_getr X hK (N := 8) (ci := 5) (k := 2) rfl (by decide) inlX5 (by decide) hf_X5_15 rfl spX_X5 rfl dX5_startOf_6 (fun o2 _ => ?_)
    refine z_alen X hK dX5_startOf_9 spX_14 (fun o3 _ => ?_)
    refine z_icmp_ge X (tgt := 22) dX5_startOf_10 (by decide) (fun _ => ?_) (fun _ => ?_)
    · exact z_sub [0] (J22  _) rfl
    · refine z_aload_n X (q := 0) dX5_startOf_13 rfl rfl ?_
      refine z_getr X hK (N := 8) (ci := 5) (k := 2) rfl (by decide) inlX5 (by decide) hf_X5_15 rfl spX_X5 rfl dX5_startOf_14 (fun o4 _ => ?_)
      refine z_iload_n X (q := 1) dX5_startOf_17 rfl rfl ?_
      refine z_iald X hK dX5_startOf_18 (fun o5 j6 _ _ => ?_)
      refine z_goto X (tgt := 26) dX5_startOf_19 (by decide) ?_
      subst hQ; exact z_iret X hlocks hr dX5_startOf_26
theorem zw_56 : Cond.fieldLink RX5 18 "WellGivesOther$Tokens" "values" "[I" ∈ wsL_law := zr_3 _ (by decide +kernel)
theorem hf_X5_18 : Cond.fieldLink RX5 18 "WellGivesOther$Tokens" "values" "[I" ∈ wsL_law := zw_56
abbrev rmX5_valueOf : Room := { frames := 1, cells := 0, slots := 0, locals := 40 }
def fX5_valueOf_j22 (this : Nat) (st : zS) : Option (Int32 × zS) :=
  some ((0 : Int32), st)
def fX5_valueOf (this : Nat) (a1 : Int32) (st : zS) : Option (Int32 × zS) :=
  if a1 < 0 then (fX5_valueOf_j22 this st) else ((zok spX st (some this) 5).bind fun o1 => (zla spX st (st.2.2.2 o1 3)).bind fun o2 => if (Int32.ofNat (spX o2).2) ≤ a1 then (fX5_valueOf_j22 this st) else ((zok spX st (some this) 5).bind fun o3 => (zok spX st (st.2.2.2 o3 3) 9).bind fun o4 => (zix spX o4 a1).bind fun j5 => some ((st.2.1 o4 j5), st)))
set_option maxRecDepth 100000 in
set_option maxHeartbeats 4000000 in
theorem kX5_valueOf (l : Launch) (Z : zZ) (b : Nat) (x : Option Nat) (this : Nat) (a1 : Int32) (st : zS) : zC l Z spX b x yX5_valueOf (.code yX5_valueOf cX5_valueOf 2 (some .int)) rmX5_valueOf rI [vP (some this), vI a1] st (fX5_valueOf this a1 st) := by
  refine z_start (own := RX5) rfl (by decide +kernel) (Nat.le_of_ble_eq_true rfl) rfl (fun p e s m args below meth c res Q A X hK hr hlocks hQ => ?_)
  have J22 : ∀ (st : zS), zs p l e rmX5_valueOf s m args below meth c Q Z spX b x A 2 0 0 res (fX5_valueOf_j22 this st) 22 [] [] st := by
    intro  st
    rw [fX5_valueOf_j22]
    refine z_iconst X (v := (0 : Int32)) dX5_valueOf_22 (by decide) ?_
    subst hQ; exact z_iret X hlocks hr dX5_valueOf_23
  rw [fX5_valueOf]
  refine z_iload_n X (q := 1) dX5_valueOf_0 rfl rfl ?_
  refine z_if_lt X (tgt := 22) dX5_valueOf_1 (by decide) (fun _ => ?_) (fun _ => ?_)
  · exact z_sub [] (J22  _) rfl
  · refine z_iload_n X (q := 1) dX5_valueOf_4 rfl rfl ?_
    refine z_aload_n X (q := 0) dX5_valueOf_5 rfl rfl ?_
    refine z_getr X hK (N := 8) (ci := 5) (k := 3) rfl (by decide) inlX5 (by decide) hf_X5_18 rfl spX_X5 rfl dX5_valueOf_6 (fun o1 _ => ?_)
    refine z_alen X hK dX5_valueOf_9 spX_14 (fun o2 _ => ?_)
    refine z_icmp_ge X (tgt := 22) dX5_valueOf_10 (by decide) (fun _ => ?_) (fun _ => ?_)
    · exact z_sub [] (J22  _) rfl
    · refine z_aload_n X (q := 0) dX5_valueOf_13 rfl rfl ?_
      refine z_getr X hK (N := 8) (ci := 5) (k := 3) rfl (by decide) inlX5 (by decide) hf_X5_18 rfl spX_X5 rfl dX5_valueOf_14 (fun o3 _ => ?_)
      refine z_iload_n X (q := 1) dX5_valueOf_17 rfl rfl ?_
      refine z_iald X hK dX5_valueOf_18 (fun o4 j5 _ _ => ?_)
      refine z_goto X (tgt := 23) dX5_valueOf_19 (by decide) ?_
      subst hQ; exact z_iret X hlocks hr dX5_valueOf_23
theorem zw_57 : Cond.fieldLink RX5 21 "WellGivesOther$Tokens" "bytes" "[I" ∈ wsL_law := zr_3 _ (by decide +kernel)
theorem hf_X5_21 : Cond.fieldLink RX5 21 "WellGivesOther$Tokens" "bytes" "[I" ∈ wsL_law := zw_57
abbrev rmX5_byteAt : Room := { frames := 1, cells := 0, slots := 0, locals := 40 }
def fX5_byteAt_j30 (this : Nat) (st : zS) : Option (Int32 × zS) :=
  some ((-1 : Int32), st)
def fX5_byteAt (this : Nat) (a1 : Int32) (st : zS) : Option (Int32 × zS) :=
  if a1 < 0 then (fX5_byteAt_j30 this st) else ((zok spX st (some this) 5).bind fun o1 => if (st.2.1 o1 4) ≤ a1 then (fX5_byteAt_j30 this st) else ((zok spX st (some this) 5).bind fun o2 => (zla spX st (st.2.2.2 o2 0)).bind fun o3 => if (Int32.ofNat (spX o3).2) ≤ a1 then (fX5_byteAt_j30 this st) else ((zok spX st (some this) 5).bind fun o4 => (zok spX st (st.2.2.2 o4 0) 9).bind fun o5 => (zix spX o5 a1).bind fun j6 => some ((st.2.1 o5 j6), st))))
set_option maxRecDepth 100000 in
set_option maxHeartbeats 4000000 in
theorem kX5_byteAt (l : Launch) (Z : zZ) (b : Nat) (x : Option Nat) (this : Nat) (a1 : Int32) (st : zS) : zC l Z spX b x yX5_byteAt (.code yX5_byteAt cX5_byteAt 2 (some .int)) rmX5_byteAt rI [vP (some this), vI a1] st (fX5_byteAt this a1 st) := by
  refine z_start (own := RX5) rfl (by decide +kernel) (Nat.le_of_ble_eq_true rfl) rfl (fun p e s m args below meth c res Q A X hK hr hlocks hQ => ?_)
  have J30 : ∀ (st : zS), zs p l e rmX5_byteAt s m args below meth c Q Z spX b x A 2 0 0 res (fX5_byteAt_j30 this st) 30 [] [] st := by
    intro  st
    rw [fX5_byteAt_j30]
    refine z_iconst X (v := (-1 : Int32)) dX5_byteAt_30 (by decide) ?_
    subst hQ; exact z_iret X hlocks hr dX5_byteAt_31
  rw [fX5_byteAt]
  refine z_iload_n X (q := 1) dX5_byteAt_0 rfl rfl ?_
  refine z_if_lt X (tgt := 30) dX5_byteAt_1 (by decide) (fun _ => ?_) (fun _ => ?_)
  · exact z_sub [] (J30  _) rfl
  · refine z_iload_n X (q := 1) dX5_byteAt_4 rfl rfl ?_
    refine z_aload_n X (q := 0) dX5_byteAt_5 rfl rfl ?_
    refine z_geti X hK (N := 8) (ci := 5) (k := 4) rfl (by decide) inlX5 (by decide) hf_X5_24 rfl spX_X5 rfl dX5_byteAt_6 (fun o1 _ => ?_)
    refine z_icmp_ge X (tgt := 30) dX5_byteAt_9 (by decide) (fun _ => ?_) (fun _ => ?_)
    · exact z_sub [] (J30  _) rfl
    · refine z_iload_n X (q := 1) dX5_byteAt_12 rfl rfl ?_
      refine z_aload_n X (q := 0) dX5_byteAt_13 rfl rfl ?_
      refine z_getr X hK (N := 8) (ci := 5) (k := 0) rfl (by decide) inlX5 (by decide) hf_X5_21 rfl spX_X5 rfl dX5_byteAt_14 (fun o2 _ => ?_)
      refine z_alen X hK dX5_byteAt_17 spX_14 (fun o3 _ => ?_)
      refine z_icmp_ge X (tgt := 30) dX5_byteAt_18 (by decide) (fun _ => ?_) (fun _ => ?_)
      · exact z_sub [] (J30  _) rfl
      · refine z_aload_n X (q := 0) dX5_byteAt_21 rfl rfl ?_
        refine z_getr X hK (N := 8) (ci := 5) (k := 0) rfl (by decide) inlX5 (by decide) hf_X5_21 rfl spX_X5 rfl dX5_byteAt_22 (fun o4 _ => ?_)
        refine z_iload_n X (q := 1) dX5_byteAt_25 rfl rfl ?_
        refine z_iald X hK dX5_byteAt_26 (fun o5 j6 _ _ => ?_)
        refine z_goto X (tgt := 31) dX5_byteAt_27 (by decide) ?_
        subst hQ; exact z_iret X hlocks hr dX5_byteAt_31
abbrev rmX5_isBlank : Room := { frames := 1, cells := 0, slots := 0, locals := 40 }
def fX5_isBlank_j12 (st : zS) : Option (Int32 × zS) :=
  some ((1 : Int32), st)
def fX5_isBlank (a0 : Int32) (st : zS) : Option (Int32 × zS) :=
  if a0 = (32 : Int32) then (fX5_isBlank_j12 st) else (if a0 = (10 : Int32) then (fX5_isBlank_j12 st) else (some ((0 : Int32), st)))
set_option maxRecDepth 100000 in
set_option maxHeartbeats 4000000 in
theorem kX5_isBlank (l : Launch) (Z : zZ) (b : Nat) (x : Option Nat) (a0 : Int32) (st : zS) : zC l Z spX b x yX5_isBlank (.code yX5_isBlank cX5_isBlank 1 (some .boolean)) rmX5_isBlank rI [vI a0] st (fX5_isBlank a0 st) := by
  refine z_start (own := RX5) rfl (by decide +kernel) (Nat.le_of_ble_eq_true rfl) rfl (fun p e s m args below meth c res Q A X hK hr hlocks hQ => ?_)
  have J12 : ∀ (st : zS), zs p l e rmX5_isBlank s m args below meth c Q Z spX b x A 1 0 0 res (fX5_isBlank_j12 st) 12 [] [] st := by
    intro  st
    rw [fX5_isBlank_j12]
    refine z_iconst X (v := (1 : Int32)) dX5_isBlank_12 (by decide) ?_
    refine z_goto X (tgt := 17) dX5_isBlank_13 (by decide) ?_
    subst hQ; exact z_zretc X hlocks hr (by decide) dX5_isBlank_17
  rw [fX5_isBlank]
  refine z_iload_n X (q := 0) dX5_isBlank_0 rfl rfl ?_
  refine z_bipush X (v := (32 : Int32)) dX5_isBlank_1 (by decide) ?_
  refine z_icmp_eq X (tgt := 12) dX5_isBlank_3 (by decide) (fun _ => ?_) (fun _ => ?_)
  · exact z_sub [] (J12  _) rfl
  · refine z_iload_n X (q := 0) dX5_isBlank_6 rfl rfl ?_
    refine z_bipush X (v := (10 : Int32)) dX5_isBlank_7 (by decide) ?_
    refine z_icmp_ne X (tgt := 16) dX5_isBlank_9 (by decide) (fun _ => ?_) (fun _ => ?_)
    · refine z_iconst X (v := (0 : Int32)) dX5_isBlank_16 (by decide) ?_
      subst hQ; exact z_zretc X hlocks hr (by decide) dX5_isBlank_17
    · exact z_sub [] (J12  _) rfl
abbrev rmX5_isDigit : Room := { frames := 1, cells := 0, slots := 0, locals := 40 }
def fX5_isDigit_j16 (st : zS) : Option (Int32 × zS) :=
  some ((0 : Int32), st)
def fX5_isDigit (a0 : Int32) (st : zS) : Option (Int32 × zS) :=
  if a0 < (48 : Int32) then (fX5_isDigit_j16 st) else (if (57 : Int32) < a0 then (fX5_isDigit_j16 st) else (some ((1 : Int32), st)))
set_option maxRecDepth 100000 in
set_option maxHeartbeats 4000000 in
theorem kX5_isDigit (l : Launch) (Z : zZ) (b : Nat) (x : Option Nat) (a0 : Int32) (st : zS) : zC l Z spX b x yX5_isDigit (.code yX5_isDigit cX5_isDigit 1 (some .boolean)) rmX5_isDigit rI [vI a0] st (fX5_isDigit a0 st) := by
  refine z_start (own := RX5) rfl (by decide +kernel) (Nat.le_of_ble_eq_true rfl) rfl (fun p e s m args below meth c res Q A X hK hr hlocks hQ => ?_)
  have J16 : ∀ (st : zS), zs p l e rmX5_isDigit s m args below meth c Q Z spX b x A 1 0 0 res (fX5_isDigit_j16 st) 16 [] [] st := by
    intro  st
    rw [fX5_isDigit_j16]
    refine z_iconst X (v := (0 : Int32)) dX5_isDigit_16 (by decide) ?_
    subst hQ; exact z_zretc X hlocks hr (by decide) dX5_isDigit_17
  rw [fX5_isDigit]
  refine z_iload_n X (q := 0) dX5_isDigit_0 rfl rfl ?_
  refine z_bipush X (v := (48 : Int32)) dX5_isDigit_1 (by decide) ?_
  refine z_icmp_lt X (tgt := 16) dX5_isDigit_3 (by decide) (fun _ => ?_) (fun _ => ?_)
  · exact z_sub [] (J16  _) rfl
  · refine z_iload_n X (q := 0) dX5_isDigit_6 rfl rfl ?_
    refine z_bipush X (v := (57 : Int32)) dX5_isDigit_7 (by decide) ?_
    refine z_icmp_gt X (tgt := 16) dX5_isDigit_9 (by decide) (fun _ => ?_) (fun _ => ?_)
    · exact z_sub [] (J16  _) rfl
    · refine z_iconst X (v := (1 : Int32)) dX5_isDigit_12 (by decide) ?_
      refine z_goto X (tgt := 17) dX5_isDigit_13 (by decide) ?_
      subst hQ; exact z_zretc X hlocks hr (by decide) dX5_isDigit_17
abbrev rmX5_isLetter : Room := { frames := 1, cells := 0, slots := 0, locals := 40 }
def fX5_isLetter_j16 (st : zS) : Option (Int32 × zS) :=
  some ((0 : Int32), st)
def fX5_isLetter (a0 : Int32) (st : zS) : Option (Int32 × zS) :=
  if a0 < (97 : Int32) then (fX5_isLetter_j16 st) else (if (122 : Int32) < a0 then (fX5_isLetter_j16 st) else (some ((1 : Int32), st)))
set_option maxRecDepth 100000 in
set_option maxHeartbeats 4000000 in
theorem kX5_isLetter (l : Launch) (Z : zZ) (b : Nat) (x : Option Nat) (a0 : Int32) (st : zS) : zC l Z spX b x yX5_isLetter (.code yX5_isLetter cX5_isLetter 1 (some .boolean)) rmX5_isLetter rI [vI a0] st (fX5_isLetter a0 st) := by
  refine z_start (own := RX5) rfl (by decide +kernel) (Nat.le_of_ble_eq_true rfl) rfl (fun p e s m args below meth c res Q A X hK hr hlocks hQ => ?_)
  have J16 : ∀ (st : zS), zs p l e rmX5_isLetter s m args below meth c Q Z spX b x A 1 0 0 res (fX5_isLetter_j16 st) 16 [] [] st := by
    intro  st
    rw [fX5_isLetter_j16]
    refine z_iconst X (v := (0 : Int32)) dX5_isLetter_16 (by decide) ?_
    subst hQ; exact z_zretc X hlocks hr (by decide) dX5_isLetter_17
  rw [fX5_isLetter]
  refine z_iload_n X (q := 0) dX5_isLetter_0 rfl rfl ?_
  refine z_bipush X (v := (97 : Int32)) dX5_isLetter_1 (by decide) ?_
  refine z_icmp_lt X (tgt := 16) dX5_isLetter_3 (by decide) (fun _ => ?_) (fun _ => ?_)
  · exact z_sub [] (J16  _) rfl
  · refine z_iload_n X (q := 0) dX5_isLetter_6 rfl rfl ?_
    refine z_bipush X (v := (122 : Int32)) dX5_isLetter_7 (by decide) ?_
    refine z_icmp_gt X (tgt := 16) dX5_isLetter_9 (by decide) (fun _ => ?_) (fun _ => ?_)
    · exact z_sub [] (J16  _) rfl
    · refine z_iconst X (v := (1 : Int32)) dX5_isLetter_12 (by decide) ?_
      refine z_goto X (tgt := 17) dX5_isLetter_13 (by decide) ?_
      subst hQ; exact z_zretc X hlocks hr (by decide) dX5_isLetter_17
abbrev rmX5_isSign : Room := { frames := 1, cells := 0, slots := 0, locals := 40 }
def fX5_isSign (a0 : Int32) (st : zS) : Option (Int32 × zS) :=
  if a0 = (40 : Int32) then (some ((1 : Int32), st)) else (if a0 = (41 : Int32) then (some ((1 : Int32), st)) else (if a0 = (42 : Int32) then (some ((1 : Int32), st)) else (if a0 = (43 : Int32) then (some ((1 : Int32), st)) else (if a0 = (45 : Int32) then (some ((1 : Int32), st)) else (if a0 = (59 : Int32) then (some ((1 : Int32), st)) else (if a0 = (60 : Int32) then (some ((1 : Int32), st)) else (if a0 = (61 : Int32) then (some ((1 : Int32), st)) else (some ((0 : Int32), st)))))))))
set_option maxRecDepth 100000 in
set_option maxHeartbeats 4000000 in
theorem kX5_isSign (l : Launch) (Z : zZ) (b : Nat) (x : Option Nat) (a0 : Int32) (st : zS) : zC l Z spX b x yX5_isSign (.code yX5_isSign cX5_isSign 1 (some .boolean)) rmX5_isSign rI [vI a0] st (fX5_isSign a0 st) := by
  refine z_start (own := RX5) rfl (by decide +kernel) (Nat.le_of_ble_eq_true rfl) rfl (fun p e s m args below meth c res Q A X hK hr hlocks hQ => ?_)
  rw [fX5_isSign]
  refine z_iload_n X (q := 0) dX5_isSign_0 rfl rfl ?_
  refine z_ite (fun h1 => ?_) (fun h1 => ?_)
  · refine z_tabIn X (off := 103) (tgt := 104) dX5_isSign_1 (by rw [h1]; decide) (by rw [h1]; decide) (by rw [h1]; rfl) (by decide) ?_
    refine z_iconst X (v := (1 : Int32)) dX5_isSign_104 (by decide) ?_
    subst hQ; exact z_zretc X hlocks hr (by decide) dX5_isSign_105
  refine z_ite (fun h2 => ?_) (fun h2 => ?_)
  · refine z_tabIn X (off := 103) (tgt := 104) dX5_isSign_1 (by rw [h2]; decide) (by rw [h2]; decide) (by rw [h2]; rfl) (by decide) ?_
    refine z_iconst X (v := (1 : Int32)) dX5_isSign_104 (by decide) ?_
    subst hQ; exact z_zretc X hlocks hr (by decide) dX5_isSign_105
  refine z_ite (fun h3 => ?_) (fun h3 => ?_)
  · refine z_tabIn X (off := 103) (tgt := 104) dX5_isSign_1 (by rw [h3]; decide) (by rw [h3]; decide) (by rw [h3]; rfl) (by decide) ?_
    refine z_iconst X (v := (1 : Int32)) dX5_isSign_104 (by decide) ?_
    subst hQ; exact z_zretc X hlocks hr (by decide) dX5_isSign_105
  refine z_ite (fun h4 => ?_) (fun h4 => ?_)
  · refine z_tabIn X (off := 103) (tgt := 104) dX5_isSign_1 (by rw [h4]; decide) (by rw [h4]; decide) (by rw [h4]; rfl) (by decide) ?_
    refine z_iconst X (v := (1 : Int32)) dX5_isSign_104 (by decide) ?_
    subst hQ; exact z_zretc X hlocks hr (by decide) dX5_isSign_105
  refine z_ite (fun h5 => ?_) (fun h5 => ?_)
  · refine z_tabIn X (off := 103) (tgt := 104) dX5_isSign_1 (by rw [h5]; decide) (by rw [h5]; decide) (by rw [h5]; rfl) (by decide) ?_
    refine z_iconst X (v := (1 : Int32)) dX5_isSign_104 (by decide) ?_
    subst hQ; exact z_zretc X hlocks hr (by decide) dX5_isSign_105
  refine z_ite (fun h6 => ?_) (fun h6 => ?_)
  · refine z_tabIn X (off := 103) (tgt := 104) dX5_isSign_1 (by rw [h6]; decide) (by rw [h6]; decide) (by rw [h6]; rfl) (by decide) ?_
    refine z_iconst X (v := (1 : Int32)) dX5_isSign_104 (by decide) ?_
    subst hQ; exact z_zretc X hlocks hr (by decide) dX5_isSign_105
  refine z_ite (fun h7 => ?_) (fun h7 => ?_)
  · refine z_tabIn X (off := 103) (tgt := 104) dX5_isSign_1 (by rw [h7]; decide) (by rw [h7]; decide) (by rw [h7]; rfl) (by decide) ?_
    refine z_iconst X (v := (1 : Int32)) dX5_isSign_104 (by decide) ?_
    subst hQ; exact z_zretc X hlocks hr (by decide) dX5_isSign_105
  refine z_ite (fun h8 => ?_) (fun h8 => ?_)
  · refine z_tabIn X (off := 103) (tgt := 104) dX5_isSign_1 (by rw [h8]; decide) (by rw [h8]; decide) (by rw [h8]; rfl) (by decide) ?_
    refine z_iconst X (v := (1 : Int32)) dX5_isSign_104 (by decide) ?_
    subst hQ; exact z_zretc X hlocks hr (by decide) dX5_isSign_105
  refine z_tabGap X (tgt := 106) dX5_isSign_1 (by have := lv_neT (a := 40) h1 (by decide); have := lv_neT (a := 41) h2 (by decide); have := lv_neT (a := 42) h3 (by decide); have := lv_neT (a := 43) h4 (by decide); have := lv_neT (a := 45) h5 (by decide); have := lv_neT (a := 59) h6 (by decide); have := lv_neT (a := 60) h7 (by decide); have := lv_neT (a := 61) h8 (by decide); rcases (show (a0).toInt < 40 ∨ 61 < (a0).toInt ∨ (a0).toInt = 44 ∨ (a0).toInt = 46 ∨ (a0).toInt = 47 ∨ (a0).toInt = 48 ∨ (a0).toInt = 49 ∨ (a0).toInt = 50 ∨ (a0).toInt = 51 ∨ (a0).toInt = 52 ∨ (a0).toInt = 53 ∨ (a0).toInt = 54 ∨ (a0).toInt = 55 ∨ (a0).toInt = 56 ∨ (a0).toInt = 57 ∨ (a0).toInt = 58 by omega) with h | h | h | h | h | h | h | h | h | h | h | h | h | h | h | h; exact Or.inl h; exact Or.inr (Or.inl h); all_goals exact Or.inr (Or.inr (by rw [h]; rfl))) (by decide) ?_
  refine z_iconst X (v := (0 : Int32)) dX5_isSign_106 (by decide) ?_
  subst hQ; exact z_zretc X hlocks hr (by decide) dX5_isSign_107
theorem zw_58 : Cond.methodLink RX5 41 yX5_byteAt ∈ wsL_law := zr_28 _ (by decide +kernel)
theorem zw_59 : Cond.instanceMethod yX5_byteAt ∈ wsL_law := zr_28 _ (by decide +kernel)
theorem zw_60 : Cond.selects RX5 yX5_byteAt yX5_byteAt ∈ wsL_law := zr_28 _ (by decide +kernel)
theorem zw_61 : Cond.initialized RX5 ∈ wsL_law := zr_3 _ (by decide +kernel)
theorem zw_62 : Cond.code yX5_byteAt cX5_byteAt 2 (some .int) ∈ wsL_law := zr_28 _ (by decide +kernel)
theorem hk_X5_41 : ∀ w ∈ ([Cond.methodLink RX5 41 yX5_byteAt, Cond.instanceMethod yX5_byteAt, Cond.selects RX5 yX5_byteAt yX5_byteAt, Cond.initialized RX5, Cond.code yX5_byteAt cX5_byteAt 2 (some .int)] : List Cond), w ∈ wsL_law := List.forall_mem_cons.mpr ⟨zw_58, List.forall_mem_cons.mpr ⟨zw_59, List.forall_mem_cons.mpr ⟨zw_60, List.forall_mem_cons.mpr ⟨zw_61, List.forall_mem_cons.mpr ⟨zw_62, fun _ h => absurd h List.not_mem_nil⟩⟩⟩⟩⟩
theorem zw_63 : Cond.methodLink RX5 55 yX5_isDigit ∈ wsL_law := zr_31 _ (by decide +kernel)
theorem zw_64 : Cond.static yX5_isDigit ∈ wsL_law := zr_31 _ (by decide +kernel)
theorem zw_65 : Cond.code yX5_isDigit cX5_isDigit 1 (some .boolean) ∈ wsL_law := zr_31 _ (by decide +kernel)
theorem hk_X5_55 : ∀ w ∈ ([Cond.methodLink RX5 55 yX5_isDigit, Cond.static yX5_isDigit, Cond.initialized RX5, Cond.code yX5_isDigit cX5_isDigit 1 (some .boolean)] : List Cond), w ∈ wsL_law := List.forall_mem_cons.mpr ⟨zw_63, List.forall_mem_cons.mpr ⟨zw_64, List.forall_mem_cons.mpr ⟨zw_61, List.forall_mem_cons.mpr ⟨zw_65, fun _ h => absurd h List.not_mem_nil⟩⟩⟩⟩
theorem hd_X5_byteAt : yX5_byteAt.cls = RX5 ∧ yX5_byteAt.cls ≠ "java/lang/invoke/MethodHandle" ∧ yX5_byteAt.cls ≠ "java/lang/invoke/VarHandle" ∧ (parseMethodDescriptor yX5_byteAt.desc).map (fun d => d.parameters.length) = some 1 := by decide +kernel
theorem hd_X5_isDigit : yX5_isDigit.cls = RX5 ∧ yX5_isDigit.cls ≠ "java/lang/invoke/MethodHandle" ∧ yX5_isDigit.cls ≠ "java/lang/invoke/VarHandle" ∧ (parseMethodDescriptor yX5_isDigit.desc).map (fun d => d.parameters.length) = some 1 := by decide +kernel
theorem zw_66 : Cond.fieldLink RX5 28 "WellGivesOther$Tokens" "end" "I" ∈ wsL_law := zr_28 _ (by decide +kernel)
theorem hf_X5_28 : Cond.fieldLink RX5 28 "WellGivesOther$Tokens" "end" "I" ∈ wsL_law := zw_66
theorem zw_67 : Cond.fieldLink RX5 35 "WellGivesOther$Tokens" "start" "I" ∈ wsL_law := zr_28 _ (by decide +kernel)
theorem hf_X5_35 : Cond.fieldLink RX5 35 "WellGivesOther$Tokens" "start" "I" ∈ wsL_law := zw_67
theorem zw_68 : Cond.fieldLink RX5 38 "WellGivesOther$Tokens" "value" "I" ∈ wsL_law := zr_28 _ (by decide +kernel)
theorem hf_X5_38 : Cond.fieldLink RX5 38 "WellGivesOther$Tokens" "value" "I" ∈ wsL_law := zw_68
abbrev rmX5_scanNumber : Room := { frames := 2, cells := 0, slots := 0, locals := 61 }
def fX5_scanNumber_L60 (this : Nat) : Nat → Int32 → zS → Option (Int32 × zS)
  | 0, _, _ => none
  | n + 1, y1, st => (zok spX st (some this) 5).bind fun o1 => if (st.2.1 o1 6) ≤ y1 then (some ((7 : Int32), st)) else ((zok spX st (some this) 5).bind fun o2 => (zok spX st (some this) 5).bind fun o6 => (fX5_byteAt o6 y1 st).bind fun q3 => (zok spX q3.2 (some this) 5).bind fun o4 => zlet (zp q3.2 o4 7 ((((st.2.1 o2 7) * (10 : Int32)) + q3.1) - (48 : Int32))) fun st5 => (fX5_scanNumber_L60 this n) (y1 + (1 : Int32)) st5)
def fX5_scanNumber_j39 (this : Nat) (st : zS) : Option (Int32 × zS) :=
  (zok spX st (some this) 5).bind fun o7 => (zok spX st (some this) 5).bind fun o8 => if ((st.2.1 o7 6) - (st.2.1 o8 5)) ≤ (4 : Int32) then ((zok spX st (some this) 5).bind fun o9 => zlet ((st.2.1 o9 5)) fun v10 => fX5_scanNumber_L60 this zF v10 st) else (some ((9 : Int32), st))
def fX5_scanNumber_L2 (this : Nat) : Nat → Int32 → zS → Option (Int32 × zS)
  | 0, _, _ => none
  | n + 1, y1, st => if (160 : Int32) ≤ y1 then (fX5_scanNumber_j39 this st) else ((zok spX st (some this) 5).bind fun o11 => (zok spX st (some this) 5).bind fun o17 => (fX5_byteAt o17 (st.2.1 o11 6) st).bind fun q12 => (fX5_isDigit q12.1 q12.2).bind fun q13 => if q13.1 = 0 then (fX5_scanNumber_j39 this q13.2) else ((zok spX q13.2 (some this) 5).bind fun o14 => (zok spX q13.2 (some this) 5).bind fun o15 => zlet (zp q13.2 o15 6 ((q13.2.2.1 o14 6) + (1 : Int32))) fun st16 => (fX5_scanNumber_L2 this n) (y1 + (1 : Int32)) st16))
def fX5_scanNumber (this : Nat) (st : zS) : Option (Int32 × zS) :=
  fX5_scanNumber_L2 this zF (0 : Int32) st
set_option maxRecDepth 100000 in
set_option maxHeartbeats 4000000 in
theorem kX5_scanNumber (l : Launch) (Z : zZ) (b : Nat) (x : Option Nat) (this : Nat) (st : zS) : zC l Z spX b x yX5_scanNumber (.code yX5_scanNumber cX5_scanNumber 2 (some .int)) rmX5_scanNumber rI [vP (some this)] st (fX5_scanNumber this st) := by
  refine z_start (own := RX5) rfl (by decide +kernel) (Nat.le_of_ble_eq_true rfl) rfl (fun p e s m args below meth c res Q A X hK hr hlocks hQ => ?_)
  have J60 : ∀ (n60 : Nat) (y1 : Int32) (st : zS), zs p l e rmX5_scanNumber s m args below meth c Q Z spX b x A 2 0 0 res (fX5_scanNumber_L60 this n60 y1 st) 60 [(0, vP (some this)), (1, vI y1)] [] st := by
    intro n60
    induction n60 with
    | zero => intros; exact z_none
    | succ n60 ih60 =>
      intro y1 st
      rw [fX5_scanNumber_L60]
      refine z_iload_n X (q := 1) dX5_scanNumber_60 rfl rfl ?_
      refine z_aload_n X (q := 0) dX5_scanNumber_61 rfl rfl ?_
      refine z_geti X hK (N := 8) (ci := 5) (k := 6) rfl (by decide) inlX5 (by decide) hf_X5_28 rfl spX_X5 rfl dX5_scanNumber_62 (fun o1 _ => ?_)
      refine z_icmp_ge X (tgt := 94) dX5_scanNumber_65 (by decide) (fun _ => ?_) (fun _ => ?_)
      · refine z_bipush X (v := (7 : Int32)) dX5_scanNumber_94 (by decide) ?_
        subst hQ; exact z_iret X hlocks hr dX5_scanNumber_96
      · refine z_aload_n X (q := 0) dX5_scanNumber_68 rfl rfl ?_
        refine z_aload_n X (q := 0) dX5_scanNumber_69 rfl rfl ?_
        refine z_geti X hK (N := 8) (ci := 5) (k := 7) rfl (by decide) inlX5 (by decide) hf_X5_38 rfl spX_X5 rfl dX5_scanNumber_70 (fun o2 _ => ?_)
        refine z_bipush X (v := (10 : Int32)) dX5_scanNumber_73 (by decide) ?_
        refine z_imul X dX5_scanNumber_75 ?_
        refine z_aload_n X (q := 0) dX5_scanNumber_76 rfl rfl ?_
        refine z_iload_n X (q := 1) dX5_scanNumber_77 rfl rfl ?_
        refine z_callV X hK (As := [vI y1]) (ci := 5) rfl (by decide) (fun o => (kX5_byteAt l Z  b x o _ _)) hk_X5_41 ⟨rfl, rfl⟩ hd_X5_byteAt ⟨Nat.le_of_ble_eq_true rfl, Nat.le_of_ble_eq_true rfl⟩ ⟨Nat.le_of_ble_eq_true rfl, Nat.le_of_ble_eq_true rfl⟩ rfl rfl (Nat.le_of_ble_eq_true rfl) dX5_scanNumber_78 (fun _ q3 _ => ?_)
        refine z_iadd X dX5_scanNumber_81 ?_
        refine z_bipush X (v := (48 : Int32)) dX5_scanNumber_82 (by decide) ?_
        refine z_isub X dX5_scanNumber_84 ?_
        refine z_puti X hK (N := 8) (ci := 5) (k := 7) rfl (by decide) inlX5 tyX5 tyX5_ok nmX5 (by decide) hf_X5_38 rfl rfl spX_X5 rfl (by decide +kernel) dX5_scanNumber_85 (fun o4 st5 _ => ?_)
        refine z_iinc X (q := 1) (y := y1 + (1 : Int32)) dX5_scanNumber_88 rfl rfl (Nat.le_of_ble_eq_true rfl) rfl ?_
        refine z_goto X (tgt := 60) dX5_scanNumber_91 (by decide) ?_
        exact z_sub [1, 0] (ih60 _ _) rfl
  have J39 : ∀ (st : zS), zs p l e rmX5_scanNumber s m args below meth c Q Z spX b x A 2 0 0 res (fX5_scanNumber_j39 this st) 39 [(0, vP (some this))] [] st := by
    intro  st
    rw [fX5_scanNumber_j39]
    refine z_aload_n X (q := 0) dX5_scanNumber_39 rfl rfl ?_
    refine z_geti X hK (N := 8) (ci := 5) (k := 6) rfl (by decide) inlX5 (by decide) hf_X5_28 rfl spX_X5 rfl dX5_scanNumber_40 (fun o7 _ => ?_)
    refine z_aload_n X (q := 0) dX5_scanNumber_43 rfl rfl ?_
    refine z_geti X hK (N := 8) (ci := 5) (k := 5) rfl (by decide) inlX5 (by decide) hf_X5_35 rfl spX_X5 rfl dX5_scanNumber_44 (fun o8 _ => ?_)
    refine z_isub X dX5_scanNumber_47 ?_
    refine z_iconst X (v := (4 : Int32)) dX5_scanNumber_48 (by decide) ?_
    refine z_icmp_le X (tgt := 55) dX5_scanNumber_49 (by decide) (fun _ => ?_) (fun _ => ?_)
    · refine z_aload_n X (q := 0) dX5_scanNumber_55 rfl rfl ?_
      refine z_geti X hK (N := 8) (ci := 5) (k := 5) rfl (by decide) inlX5 (by decide) hf_X5_35 rfl spX_X5 rfl dX5_scanNumber_56 (fun o9 _ => ?_)
      refine z_name (fun v10 => ?_)
      refine z_istore_n X dX5_scanNumber_59 rfl (Nat.le_of_ble_eq_true rfl) rfl ?_
      exact z_sub [1, 0] (J60 _ _ _) rfl
    · refine z_bipush X (v := (9 : Int32)) dX5_scanNumber_52 (by decide) ?_
      subst hQ; exact z_iret X hlocks hr dX5_scanNumber_54
  have J2 : ∀ (n2 : Nat) (y1 : Int32) (st : zS), zs p l e rmX5_scanNumber s m args below meth c Q Z spX b x A 2 0 0 res (fX5_scanNumber_L2 this n2 y1 st) 2 [(0, vP (some this)), (1, vI y1)] [] st := by
    intro n2
    induction n2 with
    | zero => intros; exact z_none
    | succ n2 ih2 =>
      intro y1 st
      rw [fX5_scanNumber_L2]
      refine z_iload_n X (q := 1) dX5_scanNumber_2 rfl rfl ?_
      refine z_sipush X (v := (160 : Int32)) dX5_scanNumber_3 (by decide) ?_
      refine z_icmp_ge X (tgt := 39) dX5_scanNumber_6 (by decide) (fun _ => ?_) (fun _ => ?_)
      · exact z_sub [0] (J39  _) rfl
      · refine z_aload_n X (q := 0) dX5_scanNumber_9 rfl rfl ?_
        refine z_aload_n X (q := 0) dX5_scanNumber_10 rfl rfl ?_
        refine z_geti X hK (N := 8) (ci := 5) (k := 6) rfl (by decide) inlX5 (by decide) hf_X5_28 rfl spX_X5 rfl dX5_scanNumber_11 (fun o11 _ => ?_)
        refine z_callV X hK (As := [vI (st.2.1 o11 6)]) (ci := 5) rfl (by decide) (fun o => (kX5_byteAt l Z  b x o _ _)) hk_X5_41 ⟨rfl, rfl⟩ hd_X5_byteAt ⟨Nat.le_of_ble_eq_true rfl, Nat.le_of_ble_eq_true rfl⟩ ⟨Nat.le_of_ble_eq_true rfl, Nat.le_of_ble_eq_true rfl⟩ rfl rfl (Nat.le_of_ble_eq_true rfl) dX5_scanNumber_14 (fun _ q12 _ => ?_)
        refine z_callS X hK (As := [vI q12.1]) (kX5_isDigit l Z  b x _ _) hk_X5_55 ⟨rfl, rfl⟩ hd_X5_isDigit.2 ⟨Nat.le_of_ble_eq_true rfl, Nat.le_of_ble_eq_true rfl⟩ ⟨Nat.le_of_ble_eq_true rfl, Nat.le_of_ble_eq_true rfl⟩ rfl rfl (Nat.le_of_ble_eq_true rfl) dX5_scanNumber_17 (fun q13 => ?_)
        refine z_if_eq X (tgt := 39) dX5_scanNumber_20 (by decide) (fun _ => ?_) (fun _ => ?_)
        · exact z_sub [0] (J39  _) rfl
        · refine z_aload_n X (q := 0) dX5_scanNumber_23 rfl rfl ?_
          refine z_dup X dX5_scanNumber_24 rfl ?_
          refine z_geti X hK (N := 8) (ci := 5) (k := 6) rfl (by decide) inlX5 (by decide) hf_X5_28 rfl spX_X5 rfl dX5_scanNumber_25 (fun o14 _ => ?_)
          refine z_iconst X (v := (1 : Int32)) dX5_scanNumber_28 (by decide) ?_
          refine z_iadd X dX5_scanNumber_29 ?_
          refine z_puti X hK (N := 8) (ci := 5) (k := 6) rfl (by decide) inlX5 tyX5 tyX5_ok nmX5 (by decide) hf_X5_28 rfl rfl spX_X5 rfl (by decide +kernel) dX5_scanNumber_30 (fun o15 st16 _ => ?_)
          refine z_iinc X (q := 1) (y := y1 + (1 : Int32)) dX5_scanNumber_33 rfl rfl (Nat.le_of_ble_eq_true rfl) rfl ?_
          refine z_goto X (tgt := 2) dX5_scanNumber_36 (by decide) ?_
          exact z_sub [1, 0] (ih2 _ _) rfl
  rw [fX5_scanNumber]
  refine z_iconst X (v := (0 : Int32)) dX5_scanNumber_0 (by decide) ?_
  refine z_istore_n X dX5_scanNumber_1 rfl (Nat.le_of_ble_eq_true rfl) rfl ?_
  exact z_sub [1, 0] (J2 _ _ _) rfl
