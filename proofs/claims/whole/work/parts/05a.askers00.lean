theorem zw_33 : Cond.fieldLink RX0 13 "WellGivesOther$Asker" "number" "I" ∈ wsL_law := zr_8 _ (by decide +kernel)
theorem hf_X0_13 : Cond.fieldLink RX0 13 "WellGivesOther$Asker" "number" "I" ∈ wsL_law := zw_33
theorem zw_34 : Cond.fieldLink RX0 16 "WellGivesOther$Asker" "shut" "I" ∈ wsL_law := zr_8 _ (by decide +kernel)
theorem hf_X0_16 : Cond.fieldLink RX0 16 "WellGivesOther$Asker" "shut" "I" ∈ wsL_law := zw_34
theorem zw_35 : Cond.fieldLink RX0 19 "WellGivesOther$Asker" "had" "I" ∈ wsL_law := zr_8 _ (by decide +kernel)
theorem hf_X0_19 : Cond.fieldLink RX0 19 "WellGivesOther$Asker" "had" "I" ∈ wsL_law := zw_35
theorem zw_36 : Cond.fieldLink RX0 22 "WellGivesOther$Asker" "spent" "I" ∈ wsL_law := zr_8 _ (by decide +kernel)
theorem hf_X0_22 : Cond.fieldLink RX0 22 "WellGivesOther$Asker" "spent" "I" ∈ wsL_law := zw_36
theorem zw_37 : Cond.fieldLink RX0 7 "WellGivesOther$Asker" "kind" "I" ∈ wsL_law := zr_8 _ (by decide +kernel)
theorem hf_X0_7 : Cond.fieldLink RX0 7 "WellGivesOther$Asker" "kind" "I" ∈ wsL_law := zw_37
abbrev rmX0_becomeLike : Room := { frames := 1, cells := 0, slots := 0, locals := 40 }
def fX0_becomeLike (this : Nat) (a1 : Option Nat) (st : zS) : Option (Unit × zS) :=
  (zok spX st a1 0).bind fun o1 => (zok spX st (some this) 0).bind fun o2 => zlet (zp st o2 0 (st.2.1 o1 0)) fun st3 => (zok spX st3 a1 0).bind fun o4 => (zok spX st3 (some this) 0).bind fun o5 => zlet (zp st3 o5 1 (st3.2.1 o4 1)) fun st6 => (zok spX st6 a1 0).bind fun o7 => (zok spX st6 (some this) 0).bind fun o8 => zlet (zp st6 o8 2 (st6.2.1 o7 2)) fun st9 => (zok spX st9 a1 0).bind fun o10 => (zok spX st9 (some this) 0).bind fun o11 => zlet (zp st9 o11 3 (st9.2.1 o10 3)) fun st12 => (zok spX st12 a1 0).bind fun o13 => (zok spX st12 (some this) 0).bind fun o14 => zlet (zp st12 o14 4 (st12.2.1 o13 4)) fun st15 => some ((), st15)
set_option maxRecDepth 100000 in
set_option maxHeartbeats 4000000 in
theorem kX0_becomeLike (l : Launch) (Z : zZ) (b : Nat) (x : Option Nat) (this : Nat) (a1 : Option Nat) (st : zS) : zC l Z spX b x yX0_becomeLike (.code yX0_becomeLike cX0_becomeLike 2 none) (rmX0_becomeLike) rV [vP (some this), vP a1] st (fX0_becomeLike this a1 st) := by
  refine z_start (own := RX0) rfl (by decide +kernel) (Nat.le_of_ble_eq_true rfl) rfl (fun p e s m args below meth c res Q A X hK hr hlocks hQ => ?_)
  rw [fX0_becomeLike]
  refine z_aload_n X (q := 0) dX0_becomeLike_0 rfl rfl ?_
  refine z_aload_n X (q := 1) dX0_becomeLike_1 rfl rfl ?_
  refine z_geti X hK (N := 5) (ci := 0) (k := 0) rfl (by decide) inlX0 (by decide) hf_X0_7 rfl spX_X0 rfl dX0_becomeLike_2 (fun o1 _ => ?_)
  refine z_puti X hK (N := 5) (ci := 0) (k := 0) rfl (by decide) inlX0 tyX0 tyX0_ok nmX0 (by decide) hf_X0_7 rfl rfl spX_X0 rfl (by decide +kernel) dX0_becomeLike_5 (fun o2 st3 _ => ?_)
  refine z_aload_n X (q := 0) dX0_becomeLike_8 rfl rfl ?_
  refine z_aload_n X (q := 1) dX0_becomeLike_9 rfl rfl ?_
  refine z_geti X hK (N := 5) (ci := 0) (k := 1) rfl (by decide) inlX0 (by decide) hf_X0_13 rfl spX_X0 rfl dX0_becomeLike_10 (fun o4 _ => ?_)
  refine z_puti X hK (N := 5) (ci := 0) (k := 1) rfl (by decide) inlX0 tyX0 tyX0_ok nmX0 (by decide) hf_X0_13 rfl rfl spX_X0 rfl (by decide +kernel) dX0_becomeLike_13 (fun o5 st6 _ => ?_)
  refine z_aload_n X (q := 0) dX0_becomeLike_16 rfl rfl ?_
  refine z_aload_n X (q := 1) dX0_becomeLike_17 rfl rfl ?_
  refine z_geti X hK (N := 5) (ci := 0) (k := 2) rfl (by decide) inlX0 (by decide) hf_X0_16 rfl spX_X0 rfl dX0_becomeLike_18 (fun o7 _ => ?_)
  refine z_puti X hK (N := 5) (ci := 0) (k := 2) rfl (by decide) inlX0 tyX0 tyX0_ok nmX0 (by decide) hf_X0_16 rfl rfl spX_X0 rfl (by decide +kernel) dX0_becomeLike_21 (fun o8 st9 _ => ?_)
  refine z_aload_n X (q := 0) dX0_becomeLike_24 rfl rfl ?_
  refine z_aload_n X (q := 1) dX0_becomeLike_25 rfl rfl ?_
  refine z_geti X hK (N := 5) (ci := 0) (k := 3) rfl (by decide) inlX0 (by decide) hf_X0_19 rfl spX_X0 rfl dX0_becomeLike_26 (fun o10 _ => ?_)
  refine z_puti X hK (N := 5) (ci := 0) (k := 3) rfl (by decide) inlX0 tyX0 tyX0_ok nmX0 (by decide) hf_X0_19 rfl rfl spX_X0 rfl (by decide +kernel) dX0_becomeLike_29 (fun o11 st12 _ => ?_)
  refine z_aload_n X (q := 0) dX0_becomeLike_32 rfl rfl ?_
  refine z_aload_n X (q := 1) dX0_becomeLike_33 rfl rfl ?_
  refine z_geti X hK (N := 5) (ci := 0) (k := 4) rfl (by decide) inlX0 (by decide) hf_X0_22 rfl spX_X0 rfl dX0_becomeLike_34 (fun o13 _ => ?_)
  refine z_puti X hK (N := 5) (ci := 0) (k := 4) rfl (by decide) inlX0 tyX0 tyX0_ok nmX0 (by decide) hf_X0_22 rfl rfl spX_X0 rfl (by decide +kernel) dX0_becomeLike_37 (fun o14 st15 _ => ?_)
  subst hQ; exact z_vret X hlocks hr dX0_becomeLike_40
abbrev rmX0_change : Room := { frames := 1, cells := 0, slots := 0, locals := 40 }
def fX0_change (this : Nat) (a1 : Int32) (a2 : Int32) (st : zS) : Option (Unit × zS) :=
  if a1 = (1 : Int32) then ((zok spX st (some this) 0).bind fun o2 => zlet (zp st o2 1 a2) fun st3 => some ((), st3)) else (if a1 = (2 : Int32) then ((zok spX st (some this) 0).bind fun o5 => zlet (zp st o5 2 a2) fun st6 => some ((), st6)) else (if a1 = (3 : Int32) then ((zok spX st (some this) 0).bind fun o8 => zlet (zp st o8 3 a2) fun st9 => some ((), st9)) else (if a1 = (4 : Int32) then ((zok spX st (some this) 0).bind fun o11 => zlet (zp st o11 4 a2) fun st12 => some ((), st12)) else (some ((), st)))))
set_option maxRecDepth 100000 in
set_option maxHeartbeats 4000000 in
theorem kX0_change (l : Launch) (Z : zZ) (b : Nat) (x : Option Nat) (this : Nat) (a1 : Int32) (a2 : Int32) (st : zS) : zC l Z spX b x yX0_change (.code yX0_change cX0_change 3 none) (rmX0_change) rV [vP (some this), vI a1, vI a2] st (fX0_change this a1 a2 st) := by
  refine z_start (own := RX0) rfl (by decide +kernel) (Nat.le_of_ble_eq_true rfl) rfl (fun p e s m args below meth c res Q A X hK hr hlocks hQ => ?_)
  rw [fX0_change]
  refine z_iload_n X (q := 1) dX0_change_0 rfl rfl ?_
  refine z_ite (fun h1 => ?_) (fun h1 => ?_)
  · refine z_tabIn X (off := 31) (tgt := 32) dX0_change_1 (by rw [h1]; decide) (by rw [h1]; decide) (by rw [h1]; rfl) (by decide) ?_
    refine z_aload_n X (q := 0) dX0_change_32 rfl rfl ?_
    refine z_iload_n X (q := 2) dX0_change_33 rfl rfl ?_
    refine z_puti X hK (N := 5) (ci := 0) (k := 1) rfl (by decide) inlX0 tyX0 tyX0_ok nmX0 (by decide) hf_X0_13 rfl rfl spX_X0 rfl (by decide +kernel) dX0_change_34 (fun o2 st3 _ => ?_)
    refine z_goto X (tgt := 64) dX0_change_37 (by decide) ?_
    subst hQ; exact z_vret X hlocks hr dX0_change_64
  refine z_ite (fun h4 => ?_) (fun h4 => ?_)
  · refine z_tabIn X (off := 39) (tgt := 40) dX0_change_1 (by rw [h4]; decide) (by rw [h4]; decide) (by rw [h4]; rfl) (by decide) ?_
    refine z_aload_n X (q := 0) dX0_change_40 rfl rfl ?_
    refine z_iload_n X (q := 2) dX0_change_41 rfl rfl ?_
    refine z_puti X hK (N := 5) (ci := 0) (k := 2) rfl (by decide) inlX0 tyX0 tyX0_ok nmX0 (by decide) hf_X0_16 rfl rfl spX_X0 rfl (by decide +kernel) dX0_change_42 (fun o5 st6 _ => ?_)
    refine z_goto X (tgt := 64) dX0_change_45 (by decide) ?_
    subst hQ; exact z_vret X hlocks hr dX0_change_64
  refine z_ite (fun h7 => ?_) (fun h7 => ?_)
  · refine z_tabIn X (off := 47) (tgt := 48) dX0_change_1 (by rw [h7]; decide) (by rw [h7]; decide) (by rw [h7]; rfl) (by decide) ?_
    refine z_aload_n X (q := 0) dX0_change_48 rfl rfl ?_
    refine z_iload_n X (q := 2) dX0_change_49 rfl rfl ?_
    refine z_puti X hK (N := 5) (ci := 0) (k := 3) rfl (by decide) inlX0 tyX0 tyX0_ok nmX0 (by decide) hf_X0_19 rfl rfl spX_X0 rfl (by decide +kernel) dX0_change_50 (fun o8 st9 _ => ?_)
    refine z_goto X (tgt := 64) dX0_change_53 (by decide) ?_
    subst hQ; exact z_vret X hlocks hr dX0_change_64
  refine z_ite (fun h10 => ?_) (fun h10 => ?_)
  · refine z_tabIn X (off := 55) (tgt := 56) dX0_change_1 (by rw [h10]; decide) (by rw [h10]; decide) (by rw [h10]; rfl) (by decide) ?_
    refine z_aload_n X (q := 0) dX0_change_56 rfl rfl ?_
    refine z_iload_n X (q := 2) dX0_change_57 rfl rfl ?_
    refine z_puti X hK (N := 5) (ci := 0) (k := 4) rfl (by decide) inlX0 tyX0 tyX0_ok nmX0 (by decide) hf_X0_22 rfl rfl spX_X0 rfl (by decide +kernel) dX0_change_58 (fun o11 st12 _ => ?_)
    refine z_goto X (tgt := 64) dX0_change_61 (by decide) ?_
    subst hQ; exact z_vret X hlocks hr dX0_change_64
  refine z_tabOut X (tgt := 64) dX0_change_1 (by have := lv_neT (a := 1) h1 (by decide); have := lv_neT (a := 2) h4 (by decide); have := lv_neT (a := 3) h7 (by decide); have := lv_neT (a := 4) h10 (by decide); omega) (by decide) ?_
  subst hQ; exact z_vret X hlocks hr dX0_change_64
abbrev rmX0_come : Room := { frames := 1, cells := 0, slots := 0, locals := 40 }
def fX0_come (this : Nat) (a1 : Int32) (a2 : Int32) (st : zS) : Option (Unit × zS) :=
  (zok spX st (some this) 0).bind fun o1 => zlet (zp st o1 0 a1) fun st2 => (zok spX st2 (some this) 0).bind fun o3 => zlet (zp st2 o3 1 a2) fun st4 => (zok spX st4 (some this) 0).bind fun o5 => zlet (zp st4 o5 2 (0 : Int32)) fun st6 => (zok spX st6 (some this) 0).bind fun o7 => zlet (zp st6 o7 3 (0 : Int32)) fun st8 => (zok spX st8 (some this) 0).bind fun o9 => zlet (zp st8 o9 4 (0 : Int32)) fun st10 => some ((), st10)
set_option maxRecDepth 100000 in
set_option maxHeartbeats 4000000 in
theorem kX0_come (l : Launch) (Z : zZ) (b : Nat) (x : Option Nat) (this : Nat) (a1 : Int32) (a2 : Int32) (st : zS) : zC l Z spX b x yX0_come (.code yX0_come cX0_come 3 none) (rmX0_come) rV [vP (some this), vI a1, vI a2] st (fX0_come this a1 a2 st) := by
  refine z_start (own := RX0) rfl (by decide +kernel) (Nat.le_of_ble_eq_true rfl) rfl (fun p e s m args below meth c res Q A X hK hr hlocks hQ => ?_)
  rw [fX0_come]
  refine z_aload_n X (q := 0) dX0_come_0 rfl rfl ?_
  refine z_iload_n X (q := 1) dX0_come_1 rfl rfl ?_
  refine z_puti X hK (N := 5) (ci := 0) (k := 0) rfl (by decide) inlX0 tyX0 tyX0_ok nmX0 (by decide) hf_X0_7 rfl rfl spX_X0 rfl (by decide +kernel) dX0_come_2 (fun o1 st2 _ => ?_)
  refine z_aload_n X (q := 0) dX0_come_5 rfl rfl ?_
  refine z_iload_n X (q := 2) dX0_come_6 rfl rfl ?_
  refine z_puti X hK (N := 5) (ci := 0) (k := 1) rfl (by decide) inlX0 tyX0 tyX0_ok nmX0 (by decide) hf_X0_13 rfl rfl spX_X0 rfl (by decide +kernel) dX0_come_7 (fun o3 st4 _ => ?_)
  refine z_aload_n X (q := 0) dX0_come_10 rfl rfl ?_
  refine z_iconst X (v := (0 : Int32)) dX0_come_11 (by decide) ?_
  refine z_puti X hK (N := 5) (ci := 0) (k := 2) rfl (by decide) inlX0 tyX0 tyX0_ok nmX0 (by decide) hf_X0_16 rfl rfl spX_X0 rfl (by decide +kernel) dX0_come_12 (fun o5 st6 _ => ?_)
  refine z_aload_n X (q := 0) dX0_come_15 rfl rfl ?_
  refine z_iconst X (v := (0 : Int32)) dX0_come_16 (by decide) ?_
  refine z_puti X hK (N := 5) (ci := 0) (k := 3) rfl (by decide) inlX0 tyX0 tyX0_ok nmX0 (by decide) hf_X0_19 rfl rfl spX_X0 rfl (by decide +kernel) dX0_come_17 (fun o7 st8 _ => ?_)
  refine z_aload_n X (q := 0) dX0_come_20 rfl rfl ?_
  refine z_iconst X (v := (0 : Int32)) dX0_come_21 (by decide) ?_
  refine z_puti X hK (N := 5) (ci := 0) (k := 4) rfl (by decide) inlX0 tyX0 tyX0_ok nmX0 (by decide) hf_X0_22 rfl rfl spX_X0 rfl (by decide +kernel) dX0_come_22 (fun o9 st10 _ => ?_)
  subst hQ; exact z_vret X hlocks hr dX0_come_25
abbrev rmX0_tell : Room := { frames := 1, cells := 0, slots := 0, locals := 40 }
def fX0_tell (this : Nat) (a1 : Int32) (st : zS) : Option (Int32 × zS) :=
  if a1 = (1 : Int32) then ((zok spX st (some this) 0).bind fun o2 => some ((st.2.1 o2 1), st)) else (if a1 = (2 : Int32) then ((zok spX st (some this) 0).bind fun o4 => some ((st.2.1 o4 2), st)) else (if a1 = (3 : Int32) then ((zok spX st (some this) 0).bind fun o6 => some ((st.2.1 o6 3), st)) else (if a1 = (4 : Int32) then ((zok spX st (some this) 0).bind fun o8 => some ((st.2.1 o8 4), st)) else ((zok spX st (some this) 0).bind fun o9 => some ((st.2.1 o9 0), st)))))
set_option maxRecDepth 100000 in
set_option maxHeartbeats 4000000 in
theorem kX0_tell (l : Launch) (Z : zZ) (b : Nat) (x : Option Nat) (this : Nat) (a1 : Int32) (st : zS) : zC l Z spX b x yX0_tell (.code yX0_tell cX0_tell 2 (some .int)) (rmX0_tell) rI [vP (some this), vI a1] st (fX0_tell this a1 st) := by
  refine z_start (own := RX0) rfl (by decide +kernel) (Nat.le_of_ble_eq_true rfl) rfl (fun p e s m args below meth c res Q A X hK hr hlocks hQ => ?_)
  rw [fX0_tell]
  refine z_iload_n X (q := 1) dX0_tell_0 rfl rfl ?_
  refine z_ite (fun h1 => ?_) (fun h1 => ?_)
  · refine z_tabIn X (off := 31) (tgt := 32) dX0_tell_1 (by rw [h1]; decide) (by rw [h1]; decide) (by rw [h1]; rfl) (by decide) ?_
    refine z_aload_n X (q := 0) dX0_tell_32 rfl rfl ?_
    refine z_geti X hK (N := 5) (ci := 0) (k := 1) rfl (by decide) inlX0 (by decide) hf_X0_13 rfl spX_X0 rfl dX0_tell_33 (fun o2 _ => ?_)
    subst hQ; exact z_iret X hlocks hr dX0_tell_36
  refine z_ite (fun h3 => ?_) (fun h3 => ?_)
  · refine z_tabIn X (off := 36) (tgt := 37) dX0_tell_1 (by rw [h3]; decide) (by rw [h3]; decide) (by rw [h3]; rfl) (by decide) ?_
    refine z_aload_n X (q := 0) dX0_tell_37 rfl rfl ?_
    refine z_geti X hK (N := 5) (ci := 0) (k := 2) rfl (by decide) inlX0 (by decide) hf_X0_16 rfl spX_X0 rfl dX0_tell_38 (fun o4 _ => ?_)
    subst hQ; exact z_iret X hlocks hr dX0_tell_41
  refine z_ite (fun h5 => ?_) (fun h5 => ?_)
  · refine z_tabIn X (off := 41) (tgt := 42) dX0_tell_1 (by rw [h5]; decide) (by rw [h5]; decide) (by rw [h5]; rfl) (by decide) ?_
    refine z_aload_n X (q := 0) dX0_tell_42 rfl rfl ?_
    refine z_geti X hK (N := 5) (ci := 0) (k := 3) rfl (by decide) inlX0 (by decide) hf_X0_19 rfl spX_X0 rfl dX0_tell_43 (fun o6 _ => ?_)
    subst hQ; exact z_iret X hlocks hr dX0_tell_46
  refine z_ite (fun h7 => ?_) (fun h7 => ?_)
  · refine z_tabIn X (off := 46) (tgt := 47) dX0_tell_1 (by rw [h7]; decide) (by rw [h7]; decide) (by rw [h7]; rfl) (by decide) ?_
    refine z_aload_n X (q := 0) dX0_tell_47 rfl rfl ?_
    refine z_geti X hK (N := 5) (ci := 0) (k := 4) rfl (by decide) inlX0 (by decide) hf_X0_22 rfl spX_X0 rfl dX0_tell_48 (fun o8 _ => ?_)
    subst hQ; exact z_iret X hlocks hr dX0_tell_51
  refine z_tabOut X (tgt := 52) dX0_tell_1 (by have := lv_neT (a := 1) h1 (by decide); have := lv_neT (a := 2) h3 (by decide); have := lv_neT (a := 3) h5 (by decide); have := lv_neT (a := 4) h7 (by decide); omega) (by decide) ?_
  refine z_aload_n X (q := 0) dX0_tell_52 rfl rfl ?_
  refine z_geti X hK (N := 5) (ci := 0) (k := 0) rfl (by decide) inlX0 (by decide) hf_X0_7 rfl spX_X0 rfl dX0_tell_53 (fun o9 _ => ?_)
  subst hQ; exact z_iret X hlocks hr dX0_tell_56
