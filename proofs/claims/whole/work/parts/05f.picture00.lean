theorem zw_221 : Cond.methodLink RX1 34 yX0_becomeLike ∈ wsL_law := zr_48 _ (by decide +kernel)
theorem zw_222 : Cond.instanceMethod yX0_becomeLike ∈ wsL_law := zr_48 _ (by decide +kernel)
theorem zw_223 : Cond.selects RX0 yX0_becomeLike yX0_becomeLike ∈ wsL_law := zr_48 _ (by decide +kernel)
theorem zw_224 : Cond.initialized RX0 ∈ wsL_law := zr_2 _ (by decide +kernel)
theorem zw_225 : Cond.code yX0_becomeLike cX0_becomeLike 2 none ∈ wsL_law := zr_48 _ (by decide +kernel)
theorem hk_X1_34 : ∀ w ∈ ([Cond.methodLink RX1 34 yX0_becomeLike, Cond.instanceMethod yX0_becomeLike, Cond.selects RX0 yX0_becomeLike yX0_becomeLike, Cond.initialized RX0, Cond.code yX0_becomeLike cX0_becomeLike 2 none] : List Cond), w ∈ wsL_law := List.forall_mem_cons.mpr ⟨zw_221, List.forall_mem_cons.mpr ⟨zw_222, List.forall_mem_cons.mpr ⟨zw_223, List.forall_mem_cons.mpr ⟨zw_224, List.forall_mem_cons.mpr ⟨zw_225, fun _ h => absurd h List.not_mem_nil⟩⟩⟩⟩⟩
theorem hd_X0_becomeLike : yX0_becomeLike.cls = RX0 ∧ yX0_becomeLike.cls ≠ "java/lang/invoke/MethodHandle" ∧ yX0_becomeLike.cls ≠ "java/lang/invoke/VarHandle" ∧ (parseMethodDescriptor yX0_becomeLike.desc).map (fun d => d.parameters.length) = some 1 := by decide +kernel
abbrev rmX1_copyAskers : Room := { frames := 2, cells := 0, slots := 0, locals := 61 }
def fX1_copyAskers_j35 (k2 : Option Nat → Option Nat → Int32 → zS → Option (Unit × zS)) (y0 : Option Nat) (y1 : Option Nat) (y2 : Int32) (st : zS) : Option (Unit × zS) :=
  k2 y0 y1 (y2 + (1 : Int32)) st
def fX1_copyAskers_L2 : Nat → Option Nat → Option Nat → Int32 → zS → Option (Unit × zS)
  | 0, _, _, _, _ => none
  | n + 1, y0, y1, y2, st => (zla spX st y0).bind fun o1 => if (Int32.ofNat (spX o1).2) ≤ y2 then (some ((), st)) else ((zla spX st y1).bind fun o2 => if (Int32.ofNat (spX o2).2) ≤ y2 then (some ((), st)) else ((zok spX st y0 11).bind fun o3 => (zix spX o3 y2).bind fun j4 => if (st.2.2.2 o3 j4) = none then (fX1_copyAskers_j35 (fX1_copyAskers_L2 n) y0 y1 y2 st) else ((zok spX st y1 11).bind fun o5 => (zix spX o5 y2).bind fun j6 => if (st.2.2.2 o5 j6) = none then (fX1_copyAskers_j35 (fX1_copyAskers_L2 n) y0 y1 y2 st) else ((zok spX st y1 11).bind fun o7 => (zix spX o7 y2).bind fun j8 => (zok spX st y0 11).bind fun o9 => (zix spX o9 y2).bind fun j10 => (zok spX st (st.2.2.2 o7 j8) 0).bind fun o12 => (fX0_becomeLike o12 (st.2.2.2 o9 j10) st).bind fun q11 => fX1_copyAskers_j35 (fX1_copyAskers_L2 n) y0 y1 y2 q11.2))))
def fX1_copyAskers (a0 : Option Nat) (a1 : Option Nat) (st : zS) : Option (Unit × zS) :=
  fX1_copyAskers_L2 zF a0 a1 (0 : Int32) st
set_option maxRecDepth 100000 in
set_option maxHeartbeats 4000000 in
theorem kX1_copyAskers (l : Launch) (Z : zZ) (b : Nat) (x : Option Nat) (a0 : Option Nat) (a1 : Option Nat) (st : zS) : zC l Z spX b x yX1_copyAskers (.code yX1_copyAskers cX1_copyAskers 3 none) (rmX1_copyAskers) rV [vP a0, vP a1] st (fX1_copyAskers a0 a1 st) := by
  refine z_start (own := RX1) rfl (by decide +kernel) (Nat.le_of_ble_eq_true rfl) rfl (fun p e s m args below meth c res Q A X hK hr hlocks hQ => ?_)
  have J2 : ∀ (n2 : Nat) (y0 : Option Nat) (y1 : Option Nat) (y2 : Int32) (st : zS), zs p l e (rmX1_copyAskers) s m args below meth c Q Z spX b x A 3 0 0 res (fX1_copyAskers_L2 n2 y0 y1 y2 st) 2 [(0, vP y0), (1, vP y1), (2, vI y2)] [] st := by
    intro n2
    induction n2 with
    | zero => intros; exact z_none
    | succ n2 ih2 =>
      have J35 : ∀ (y0 : Option Nat) (y1 : Option Nat) (y2 : Int32) (st : zS), zs p l e (rmX1_copyAskers) s m args below meth c Q Z spX b x A 3 0 0 res (fX1_copyAskers_j35 (fX1_copyAskers_L2 n2) y0 y1 y2 st) 35 [(0, vP y0), (1, vP y1), (2, vI y2)] [] st := by
        intro y0 y1 y2 st
        rw [fX1_copyAskers_j35]
        refine z_iinc X (q := 2) (y := y2 + (1 : Int32)) dX1_copyAskers_35 rfl rfl (Nat.le_of_ble_eq_true rfl) rfl ?_
        refine z_goto X (tgt := 2) dX1_copyAskers_38 (by decide) ?_
        exact z_sub [1, 2, 0] (ih2 _ _ _ _) rfl
      intro y0 y1 y2 st
      rw [fX1_copyAskers_L2]
      refine z_iload_n X (q := 2) dX1_copyAskers_2 rfl rfl ?_
      refine z_aload_n X (q := 0) dX1_copyAskers_3 rfl rfl ?_
      refine z_alen X hK dX1_copyAskers_4 spX_14 (fun o1 _ => ?_)
      refine z_icmp_ge X (tgt := 41) dX1_copyAskers_5 (by decide) (fun _ => ?_) (fun _ => ?_)
      · subst hQ; exact z_vret X hlocks hr dX1_copyAskers_41
      · refine z_iload_n X (q := 2) dX1_copyAskers_8 rfl rfl ?_
        refine z_aload_n X (q := 1) dX1_copyAskers_9 rfl rfl ?_
        refine z_alen X hK dX1_copyAskers_10 spX_14 (fun o2 _ => ?_)
        refine z_icmp_ge X (tgt := 41) dX1_copyAskers_11 (by decide) (fun _ => ?_) (fun _ => ?_)
        · subst hQ; exact z_vret X hlocks hr dX1_copyAskers_41
        · refine z_aload_n X (q := 0) dX1_copyAskers_14 rfl rfl ?_
          refine z_iload_n X (q := 2) dX1_copyAskers_15 rfl rfl ?_
          refine z_aald11 X hK dX1_copyAskers_16 (fun o3 j4 _ _ => ?_)
          refine z_ifnull X (tgt := 35) dX1_copyAskers_17 (by decide) (fun _ => ?_) (fun _ => ?_)
          · exact z_sub [0, 1, 2] (J35 _ _ _ _) rfl
          · refine z_aload_n X (q := 1) dX1_copyAskers_20 rfl rfl ?_
            refine z_iload_n X (q := 2) dX1_copyAskers_21 rfl rfl ?_
            refine z_aald11 X hK dX1_copyAskers_22 (fun o5 j6 _ _ => ?_)
            refine z_ifnull X (tgt := 35) dX1_copyAskers_23 (by decide) (fun _ => ?_) (fun _ => ?_)
            · exact z_sub [0, 1, 2] (J35 _ _ _ _) rfl
            · refine z_aload_n X (q := 1) dX1_copyAskers_26 rfl rfl ?_
              refine z_iload_n X (q := 2) dX1_copyAskers_27 rfl rfl ?_
              refine z_aald11 X hK dX1_copyAskers_28 (fun o7 j8 _ _ => ?_)
              refine z_aload_n X (q := 0) dX1_copyAskers_29 rfl rfl ?_
              refine z_iload_n X (q := 2) dX1_copyAskers_30 rfl rfl ?_
              refine z_aald11 X hK dX1_copyAskers_31 (fun o9 j10 _ _ => ?_)
              refine z_callV X hK (As := [vP (st.2.2.2 o9 j10)]) (ci := 0) rfl (by decide) (fun o => (kX0_becomeLike l Z  b x o _ _)) hk_X1_34 ⟨rfl, rfl⟩ hd_X0_becomeLike ⟨Nat.le_of_ble_eq_true rfl, Nat.le_of_ble_eq_true rfl⟩ ⟨Nat.le_of_ble_eq_true rfl, Nat.le_of_ble_eq_true rfl⟩ rfl rfl (Nat.le_of_ble_eq_true rfl) dX1_copyAskers_32 (fun _ q11 _ => ?_)
              exact z_sub [0, 1, 2] (J35 _ _ _ _) rfl
  rw [fX1_copyAskers]
  refine z_iconst X (v := (0 : Int32)) dX1_copyAskers_0 (by decide) ?_
  refine z_istore_n X dX1_copyAskers_1 rfl (Nat.le_of_ble_eq_true rfl) rfl ?_
  exact z_sub [1, 2, 0] (J2 _ _ _ _ _) rfl
abbrev rmX1_copyLikes : Room := { frames := 1, cells := 0, slots := 0, locals := 40 }
def fX1_copyLikes_L2 : Nat → Option Nat → Option Nat → Int32 → zS → Option (Unit × zS)
  | 0, _, _, _, _ => none
  | n + 1, y0, y1, y2, st => (zla spX st y0).bind fun o1 => if (Int32.ofNat (spX o1).2) ≤ y2 then (some ((), st)) else ((zla spX st y1).bind fun o2 => if (Int32.ofNat (spX o2).2) ≤ y2 then (some ((), st)) else ((zok spX st y0 9).bind fun o3 => (zix spX o3 y2).bind fun j4 => (zok spX st y1 9).bind fun o5 => (zix spX o5 y2).bind fun j6 => zlet (zp st o5 j6 (st.2.1 o3 j4)) fun st7 => (fX1_copyLikes_L2 n) y0 y1 (y2 + (1 : Int32)) st7))
def fX1_copyLikes (a0 : Option Nat) (a1 : Option Nat) (st : zS) : Option (Unit × zS) :=
  fX1_copyLikes_L2 zF a0 a1 (0 : Int32) st
set_option maxRecDepth 100000 in
set_option maxHeartbeats 4000000 in
theorem kX1_copyLikes (l : Launch) (Z : zZ) (b : Nat) (x : Option Nat) (a0 : Option Nat) (a1 : Option Nat) (st : zS) : zC l Z spX b x yX1_copyLikes (.code yX1_copyLikes cX1_copyLikes 3 none) (rmX1_copyLikes) rV [vP a0, vP a1] st (fX1_copyLikes a0 a1 st) := by
  refine z_start (own := RX1) rfl (by decide +kernel) (Nat.le_of_ble_eq_true rfl) rfl (fun p e s m args below meth c res Q A X hK hr hlocks hQ => ?_)
  have J2 : ∀ (n2 : Nat) (y0 : Option Nat) (y1 : Option Nat) (y2 : Int32) (st : zS), zs p l e (rmX1_copyLikes) s m args below meth c Q Z spX b x A 3 0 0 res (fX1_copyLikes_L2 n2 y0 y1 y2 st) 2 [(0, vP y0), (1, vP y1), (2, vI y2)] [] st := by
    intro n2
    induction n2 with
    | zero => intros; exact z_none
    | succ n2 ih2 =>
      intro y0 y1 y2 st
      rw [fX1_copyLikes_L2]
      refine z_iload_n X (q := 2) dX1_copyLikes_2 rfl rfl ?_
      refine z_aload_n X (q := 0) dX1_copyLikes_3 rfl rfl ?_
      refine z_alen X hK dX1_copyLikes_4 spX_14 (fun o1 _ => ?_)
      refine z_icmp_ge X (tgt := 26) dX1_copyLikes_5 (by decide) (fun _ => ?_) (fun _ => ?_)
      · subst hQ; exact z_vret X hlocks hr dX1_copyLikes_26
      · refine z_iload_n X (q := 2) dX1_copyLikes_8 rfl rfl ?_
        refine z_aload_n X (q := 1) dX1_copyLikes_9 rfl rfl ?_
        refine z_alen X hK dX1_copyLikes_10 spX_14 (fun o2 _ => ?_)
        refine z_icmp_ge X (tgt := 26) dX1_copyLikes_11 (by decide) (fun _ => ?_) (fun _ => ?_)
        · subst hQ; exact z_vret X hlocks hr dX1_copyLikes_26
        · refine z_aload_n X (q := 1) dX1_copyLikes_14 rfl rfl ?_
          refine z_iload_n X (q := 2) dX1_copyLikes_15 rfl rfl ?_
          refine z_aload_n X (q := 0) dX1_copyLikes_16 rfl rfl ?_
          refine z_iload_n X (q := 2) dX1_copyLikes_17 rfl rfl ?_
          refine z_iald X hK dX1_copyLikes_18 (fun o3 j4 _ _ => ?_)
          refine z_iast X hK dX1_copyLikes_19 (fun o5 j6 st7 _ _ => ?_)
          refine z_iinc X (q := 2) (y := y2 + (1 : Int32)) dX1_copyLikes_20 rfl rfl (Nat.le_of_ble_eq_true rfl) rfl ?_
          refine z_goto X (tgt := 2) dX1_copyLikes_23 (by decide) ?_
          exact z_sub [1, 2, 0] (ih2 _ _ _ _) rfl
  rw [fX1_copyLikes]
  refine z_iconst X (v := (0 : Int32)) dX1_copyLikes_0 (by decide) ?_
  refine z_istore_n X dX1_copyLikes_1 rfl (Nat.le_of_ble_eq_true rfl) rfl ?_
  exact z_sub [1, 2, 0] (J2 _ _ _ _ _) rfl
theorem zw_226 : Cond.methodLink RX1 26 yX1_copyLikes ∈ wsL_law := zr_47 _ (by decide +kernel)
theorem zw_227 : Cond.static yX1_copyLikes ∈ wsL_law := zr_48 _ (by decide +kernel)
theorem zw_228 : Cond.initialized RX1 ∈ wsL_law := zr_2 _ (by decide +kernel)
theorem zw_229 : Cond.code yX1_copyLikes cX1_copyLikes 3 none ∈ wsL_law := zr_48 _ (by decide +kernel)
theorem hk_X1_26 : ∀ w ∈ ([Cond.methodLink RX1 26 yX1_copyLikes, Cond.static yX1_copyLikes, Cond.initialized RX1, Cond.code yX1_copyLikes cX1_copyLikes 3 none] : List Cond), w ∈ wsL_law := List.forall_mem_cons.mpr ⟨zw_226, List.forall_mem_cons.mpr ⟨zw_227, List.forall_mem_cons.mpr ⟨zw_228, List.forall_mem_cons.mpr ⟨zw_229, fun _ h => absurd h List.not_mem_nil⟩⟩⟩⟩
theorem zw_230 : Cond.methodLink RX1 30 yX1_copyAskers ∈ wsL_law := zr_48 _ (by decide +kernel)
theorem zw_231 : Cond.static yX1_copyAskers ∈ wsL_law := zr_48 _ (by decide +kernel)
theorem zw_232 : Cond.code yX1_copyAskers cX1_copyAskers 3 none ∈ wsL_law := zr_48 _ (by decide +kernel)
theorem hk_X1_30 : ∀ w ∈ ([Cond.methodLink RX1 30 yX1_copyAskers, Cond.static yX1_copyAskers, Cond.initialized RX1, Cond.code yX1_copyAskers cX1_copyAskers 3 none] : List Cond), w ∈ wsL_law := List.forall_mem_cons.mpr ⟨zw_230, List.forall_mem_cons.mpr ⟨zw_231, List.forall_mem_cons.mpr ⟨zw_228, List.forall_mem_cons.mpr ⟨zw_232, fun _ h => absurd h List.not_mem_nil⟩⟩⟩⟩
theorem hd_X1_copyAskers : yX1_copyAskers.cls = RX1 ∧ yX1_copyAskers.cls ≠ "java/lang/invoke/MethodHandle" ∧ yX1_copyAskers.cls ≠ "java/lang/invoke/VarHandle" ∧ (parseMethodDescriptor yX1_copyAskers.desc).map (fun d => d.parameters.length) = some 2 := by decide +kernel
theorem hd_X1_copyLikes : yX1_copyLikes.cls = RX1 ∧ yX1_copyLikes.cls ≠ "java/lang/invoke/MethodHandle" ∧ yX1_copyLikes.cls ≠ "java/lang/invoke/VarHandle" ∧ (parseMethodDescriptor yX1_copyLikes.desc).map (fun d => d.parameters.length) = some 2 := by decide +kernel
theorem zw_233 : Cond.fieldLink RX1 17 "WellGivesOther$Picture" "keptAskers" "[LWellGivesOther$Asker;" ∈ wsL_law := zr_3 _ (by decide +kernel)
theorem hf_X1_17 : Cond.fieldLink RX1 17 "WellGivesOther$Picture" "keptAskers" "[LWellGivesOther$Asker;" ∈ wsL_law := zw_233
theorem zw_234 : Cond.fieldLink RX1 21 "WellGivesOther$Picture" "askerCount" "I" ∈ wsL_law := zr_3 _ (by decide +kernel)
theorem hf_X1_21 : Cond.fieldLink RX1 21 "WellGivesOther$Picture" "askerCount" "I" ∈ wsL_law := zw_234
theorem zw_235 : Cond.fieldLink RX1 9 "WellGivesOther$Picture" "keptLikes" "[I" ∈ wsL_law := zr_3 _ (by decide +kernel)
theorem hf_X1_9 : Cond.fieldLink RX1 9 "WellGivesOther$Picture" "keptLikes" "[I" ∈ wsL_law := zw_235
abbrev rmX1_keep : Room := { frames := 3, cells := 0, slots := 0, locals := 83 }
def fX1_keep (this : Nat) (a1 : Option Nat) (a2 : Option Nat) (a3 : Int32) (st : zS) : Option (Unit × zS) :=
  (zok spX st (some this) 1).bind fun o1 => (fX1_copyLikes a1 (st.2.2.2 o1 0) st).bind fun q2 => (zok spX q2.2 (some this) 1).bind fun o3 => (fX1_copyAskers a2 (q2.2.2.2.2 o3 1) q2.2).bind fun q4 => (zok spX q4.2 (some this) 1).bind fun o5 => zlet (zp q4.2 o5 4 a3) fun st6 => some ((), st6)
set_option maxRecDepth 100000 in
set_option maxHeartbeats 4000000 in
theorem kX1_keep (l : Launch) (Z : zZ) (b : Nat) (x : Option Nat) (this : Nat) (a1 : Option Nat) (a2 : Option Nat) (a3 : Int32) (st : zS) : zC l Z spX b x yX1_keep (.code yX1_keep cX1_keep 4 none) (rmX1_keep) rV [vP (some this), vP a1, vP a2, vI a3] st (fX1_keep this a1 a2 a3 st) := by
  refine z_start (own := RX1) rfl (by decide +kernel) (Nat.le_of_ble_eq_true rfl) rfl (fun p e s m args below meth c res Q A X hK hr hlocks hQ => ?_)
  rw [fX1_keep]
  refine z_aload_n X (q := 1) dX1_keep_0 rfl rfl ?_
  refine z_aload_n X (q := 0) dX1_keep_1 rfl rfl ?_
  refine z_getr X hK (N := 5) (ci := 1) (k := 0) rfl (by decide) inlX1 (by decide) hf_X1_9 rfl spX_X1 rfl dX1_keep_2 (fun o1 _ => ?_)
  refine z_callS X hK (As := [vP a1, vP (st.2.2.2 o1 0)]) (kX1_copyLikes l Z  b x _ _ _) hk_X1_26 ⟨rfl, rfl⟩ hd_X1_copyLikes.2 ⟨Nat.le_of_ble_eq_true rfl, Nat.le_of_ble_eq_true rfl⟩ ⟨Nat.le_of_ble_eq_true rfl, Nat.le_of_ble_eq_true rfl⟩ rfl rfl (Nat.le_of_ble_eq_true rfl) dX1_keep_5 (fun q2 => ?_)
  refine z_aload_n X (q := 2) dX1_keep_8 rfl rfl ?_
  refine z_aload_n X (q := 0) dX1_keep_9 rfl rfl ?_
  refine z_getr X hK (N := 5) (ci := 1) (k := 1) rfl (by decide) inlX1 (by decide) hf_X1_17 rfl spX_X1 rfl dX1_keep_10 (fun o3 _ => ?_)
  refine z_callS X hK (As := [vP a2, vP (q2.2.2.2.2 o3 1)]) (kX1_copyAskers l Z  b x _ _ _) hk_X1_30 ⟨rfl, rfl⟩ hd_X1_copyAskers.2 ⟨Nat.le_of_ble_eq_true rfl, Nat.le_of_ble_eq_true rfl⟩ ⟨Nat.le_of_ble_eq_true rfl, Nat.le_of_ble_eq_true rfl⟩ rfl rfl (Nat.le_of_ble_eq_true rfl) dX1_keep_13 (fun q4 => ?_)
  refine z_aload_n X (q := 0) dX1_keep_16 rfl rfl ?_
  refine z_iload_n X (q := 3) dX1_keep_17 rfl rfl ?_
  refine z_puti X hK (N := 5) (ci := 1) (k := 4) rfl (by decide) inlX1 tyX1 tyX1_ok nmX1 (by decide) hf_X1_21 rfl rfl spX_X1 rfl (by decide +kernel) dX1_keep_18 (fun o5 st6 _ => ?_)
  subst hQ; exact z_vret X hlocks hr dX1_keep_21
abbrev rmX1_layBack : Room := { frames := 3, cells := 0, slots := 0, locals := 83 }
def fX1_layBack (this : Nat) (a1 : Option Nat) (a2 : Option Nat) (st : zS) : Option (Unit × zS) :=
  (zok spX st (some this) 1).bind fun o1 => (fX1_copyLikes (st.2.2.2 o1 0) a1 st).bind fun q2 => (zok spX q2.2 (some this) 1).bind fun o3 => (fX1_copyAskers (q2.2.2.2.2 o3 1) a2 q2.2).bind fun q4 => some ((), q4.2)
set_option maxRecDepth 100000 in
set_option maxHeartbeats 4000000 in
theorem kX1_layBack (l : Launch) (Z : zZ) (b : Nat) (x : Option Nat) (this : Nat) (a1 : Option Nat) (a2 : Option Nat) (st : zS) : zC l Z spX b x yX1_layBack (.code yX1_layBack cX1_layBack 3 none) (rmX1_layBack) rV [vP (some this), vP a1, vP a2] st (fX1_layBack this a1 a2 st) := by
  refine z_start (own := RX1) rfl (by decide +kernel) (Nat.le_of_ble_eq_true rfl) rfl (fun p e s m args below meth c res Q A X hK hr hlocks hQ => ?_)
  rw [fX1_layBack]
  refine z_aload_n X (q := 0) dX1_layBack_0 rfl rfl ?_
  refine z_getr X hK (N := 5) (ci := 1) (k := 0) rfl (by decide) inlX1 (by decide) hf_X1_9 rfl spX_X1 rfl dX1_layBack_1 (fun o1 _ => ?_)
  refine z_aload_n X (q := 1) dX1_layBack_4 rfl rfl ?_
  refine z_callS X hK (As := [vP (st.2.2.2 o1 0), vP a1]) (kX1_copyLikes l Z  b x _ _ _) hk_X1_26 ⟨rfl, rfl⟩ hd_X1_copyLikes.2 ⟨Nat.le_of_ble_eq_true rfl, Nat.le_of_ble_eq_true rfl⟩ ⟨Nat.le_of_ble_eq_true rfl, Nat.le_of_ble_eq_true rfl⟩ rfl rfl (Nat.le_of_ble_eq_true rfl) dX1_layBack_5 (fun q2 => ?_)
  refine z_aload_n X (q := 0) dX1_layBack_8 rfl rfl ?_
  refine z_getr X hK (N := 5) (ci := 1) (k := 1) rfl (by decide) inlX1 (by decide) hf_X1_17 rfl spX_X1 rfl dX1_layBack_9 (fun o3 _ => ?_)
  refine z_aload_n X (q := 2) dX1_layBack_12 rfl rfl ?_
  refine z_callS X hK (As := [vP (q2.2.2.2.2 o3 1), vP a2]) (kX1_copyAskers l Z  b x _ _ _) hk_X1_30 ⟨rfl, rfl⟩ hd_X1_copyAskers.2 ⟨Nat.le_of_ble_eq_true rfl, Nat.le_of_ble_eq_true rfl⟩ ⟨Nat.le_of_ble_eq_true rfl, Nat.le_of_ble_eq_true rfl⟩ rfl rfl (Nat.le_of_ble_eq_true rfl) dX1_layBack_13 (fun q4 => ?_)
  subst hQ; exact z_vret X hlocks hr dX1_layBack_16
