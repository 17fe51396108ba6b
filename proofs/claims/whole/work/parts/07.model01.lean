theorem zw_591 : Cond.methodLink RX8 224 yX8_both5 ∈ wsL_law := zr_16 _ (by decide +kernel)
theorem zw_592 : Cond.instanceMethod yX8_both5 ∈ wsL_law := zr_16 _ (by decide +kernel)
theorem zw_593 : Cond.selects RX8 yX8_both5 yX8_both5 ∈ wsL_law := zr_16 _ (by decide +kernel)
theorem zw_594 : Cond.code yX8_both5 cX8_both5 3 (some .int) ∈ wsL_law := zr_16 _ (by decide +kernel)
theorem hk_X8_224 : ∀ w ∈ ([Cond.methodLink RX8 224 yX8_both5, Cond.instanceMethod yX8_both5, Cond.selects RX8 yX8_both5 yX8_both5, Cond.initialized RX8, Cond.code yX8_both5 cX8_both5 3 (some .int)] : List Cond), w ∈ wsL_law := List.forall_mem_cons.mpr ⟨zw_591, List.forall_mem_cons.mpr ⟨zw_592, List.forall_mem_cons.mpr ⟨zw_593, List.forall_mem_cons.mpr ⟨zw_525, List.forall_mem_cons.mpr ⟨zw_594, fun _ h => absurd h List.not_mem_nil⟩⟩⟩⟩⟩
theorem hd_X8_both5 : yX8_both5.cls = RX8 ∧ yX8_both5.cls ≠ "java/lang/invoke/MethodHandle" ∧ yX8_both5.cls ≠ "java/lang/invoke/VarHandle" ∧ (parseMethodDescriptor yX8_both5.desc).map (fun d => d.parameters.length) = some 0 := by decide +kernel
abbrev rmX8_either5 : Room := { frames := 10, cells := 0, slots := 0, locals := 241 }
def fX8_either5_j44 (this : Nat) (k5 : Int32 → zS → Option (Int32 × zS)) (s0 : Int32) (st : zS) : Option (Int32 × zS) :=
  k5 s0 st
def fX8_either5_j39 (this : Nat) (k5 : Int32 → zS → Option (Int32 × zS)) (st : zS) : Option (Int32 × zS) :=
  fX8_either5_j44 this k5 (1 : Int32) st
def fX8_either5_L5 (this : Nat) : Nat → Int32 → zS → Option (Int32 × zS)
  | 0, _, _ => none
  | n + 1, y1, st => (zok spM st (some this) 8).bind fun o7 => (fX8_isWord o7 (111 : Int32) (114 : Int32) (0 : Int32) (0 : Int32) (0 : Int32) (0 : Int32) (0 : Int32) (0 : Int32) st).bind fun q1 => if q1.1 = 0 then (some (y1, q1.2)) else ((zok spM q1.2 (some this) 8).bind fun o6 => (fX8_next o6 q1.2).bind fun q2 => (zok spM q2.2 (some this) 8).bind fun o5 => (fX8_both5 o5 q2.2).bind fun q3 => zlet (q3.1) fun v4 => if y1 = 0 then (if v4 = 0 then (fX8_either5_j44 this (fX8_either5_L5 this n) (0 : Int32) q3.2) else (fX8_either5_j39 this (fX8_either5_L5 this n) q3.2)) else (fX8_either5_j39 this (fX8_either5_L5 this n) q3.2))
def fX8_either5 (this : Nat) (st : zS) : Option (Int32 × zS) :=
  (zok spM st (some this) 8).bind fun o10 => (fX8_both5 o10 st).bind fun q8 => zlet (q8.1) fun v9 => fX8_either5_L5 this zF v9 q8.2
set_option maxRecDepth 100000 in
set_option maxHeartbeats 4000000 in
theorem kX8_either5 (l : Launch) (Z : zZ) (b : Nat) (x : Option Nat) (this : Nat) (st : zS) : zC l Z spM b x yX8_either5 (.code yX8_either5 cX8_either5 3 (some .int)) (rmX8_either5) rI [vP (some this)] st (fX8_either5 this st) := by
  refine z_start (own := RX8) rfl (by decide +kernel) (Nat.le_of_ble_eq_true rfl) rfl (fun p e s m args below meth c res Q A X hK hr hlocks hQ => ?_)
  have J5 : ∀ (n5 : Nat) (y1 : Int32) (st : zS), zs p l e (rmX8_either5) s m args below meth c Q Z spM b x A 3 0 0 res (fX8_either5_L5 this n5 y1 st) 5 [(0, vP (some this)), (1, vI y1)] [] st := by
    intro n5
    induction n5 with
    | zero => intros; exact z_none
    | succ n5 ih5 =>
      have J44 : ∀ (s0 : Int32) (st : zS), zs p l e (rmX8_either5) s m args below meth c Q Z spM b x A 3 0 0 res (fX8_either5_j44 this (fX8_either5_L5 this n5) s0 st) 44 [(0, vP (some this))] [vI s0] st := by
        intro s0 st
        rw [fX8_either5_j44]
        refine z_istore_n X dX8_either5_44 rfl (Nat.le_of_ble_eq_true rfl) rfl ?_
        refine z_goto X (tgt := 5) dX8_either5_45 (by decide) ?_
        exact z_sub [1, 0] (ih5 _ _) rfl
      have J39 : ∀ (st : zS), zs p l e (rmX8_either5) s m args below meth c Q Z spM b x A 3 0 0 res (fX8_either5_j39 this (fX8_either5_L5 this n5) st) 39 [(0, vP (some this))] [] st := by
        intro  st
        rw [fX8_either5_j39]
        refine z_iconst X (v := (1 : Int32)) dX8_either5_39 (by decide) ?_
        refine z_goto X (tgt := 44) dX8_either5_40 (by decide) ?_
        exact z_sub [0] (J44 _ _) rfl
      intro y1 st
      rw [fX8_either5_L5]
      refine z_aload_n X (q := 0) dX8_either5_5 rfl rfl ?_
      refine z_bipush X (v := (111 : Int32)) dX8_either5_6 (by decide) ?_
      refine z_bipush X (v := (114 : Int32)) dX8_either5_8 (by decide) ?_
      refine z_iconst X (v := (0 : Int32)) dX8_either5_10 (by decide) ?_
      refine z_iconst X (v := (0 : Int32)) dX8_either5_11 (by decide) ?_
      refine z_iconst X (v := (0 : Int32)) dX8_either5_12 (by decide) ?_
      refine z_iconst X (v := (0 : Int32)) dX8_either5_13 (by decide) ?_
      refine z_iconst X (v := (0 : Int32)) dX8_either5_14 (by decide) ?_
      refine z_iconst X (v := (0 : Int32)) dX8_either5_15 (by decide) ?_
      refine z_callV X hK (As := [vI (111 : Int32), vI (114 : Int32), vI (0 : Int32), vI (0 : Int32), vI (0 : Int32), vI (0 : Int32), vI (0 : Int32), vI (0 : Int32)]) (ci := 8) rfl (by decide) (fun o => (kX8_isWord l Z  b x o _ _ _ _ _ _ _ _ _)) hk_X8_175 ⟨rfl, rfl⟩ hd_X8_isWord ⟨Nat.le_of_ble_eq_true rfl, Nat.le_of_ble_eq_true rfl⟩ ⟨Nat.le_of_ble_eq_true rfl, Nat.le_of_ble_eq_true rfl⟩ rfl rfl (Nat.le_of_ble_eq_true rfl) dX8_either5_16 (fun _ q1 _ => ?_)
      refine z_if_eq X (tgt := 48) dX8_either5_19 (by decide) (fun _ => ?_) (fun _ => ?_)
      · refine z_iload_n X (q := 1) dX8_either5_48 rfl rfl ?_
        subst hQ; exact z_iret X hlocks hr dX8_either5_49
      · refine z_aload_n X (q := 0) dX8_either5_22 rfl rfl ?_
        refine z_callV X hK (As := []) (ci := 8) rfl (by decide) (fun o => (kX8_next l Z  b x o _)) hk_X8_172 ⟨rfl, rfl⟩ hd_X8_next ⟨Nat.le_of_ble_eq_true rfl, Nat.le_of_ble_eq_true rfl⟩ ⟨Nat.le_of_ble_eq_true rfl, Nat.le_of_ble_eq_true rfl⟩ rfl rfl (Nat.le_of_ble_eq_true rfl) dX8_either5_23 (fun _ q2 _ => ?_)
        refine z_aload_n X (q := 0) dX8_either5_26 rfl rfl ?_
        refine z_callV X hK (As := []) (ci := 8) rfl (by decide) (fun o => (kX8_both5 l Z  b x o _)) hk_X8_224 ⟨rfl, rfl⟩ hd_X8_both5 ⟨Nat.le_of_ble_eq_true rfl, Nat.le_of_ble_eq_true rfl⟩ ⟨Nat.le_of_ble_eq_true rfl, Nat.le_of_ble_eq_true rfl⟩ rfl rfl (Nat.le_of_ble_eq_true rfl) dX8_either5_27 (fun _ q3 _ => ?_)
        refine z_name (fun v4 => ?_)
        refine z_istore_n X dX8_either5_30 rfl (Nat.le_of_ble_eq_true rfl) rfl ?_
        refine z_iload_n X (q := 2) dX8_either5_31 rfl rfl ?_
        refine z_if_ne X (tgt := 39) dX8_either5_32 (by decide) (fun _ => ?_) (fun _ => ?_)
        · exact z_sub [1] (J39  _) rfl
        · refine z_iload_n X (q := 0) dX8_either5_35 rfl rfl ?_
          refine z_if_eq X (tgt := 43) dX8_either5_36 (by decide) (fun _ => ?_) (fun _ => ?_)
          · refine z_iconst X (v := (0 : Int32)) dX8_either5_43 (by decide) ?_
            exact z_sub [1] (J44 _ _) rfl
          · exact z_sub [1] (J39  _) rfl
  rw [fX8_either5]
  refine z_aload_n X (q := 0) dX8_either5_0 rfl rfl ?_
  refine z_callV X hK (As := []) (ci := 8) rfl (by decide) (fun o => (kX8_both5 l Z  b x o _)) hk_X8_224 ⟨rfl, rfl⟩ hd_X8_both5 ⟨Nat.le_of_ble_eq_true rfl, Nat.le_of_ble_eq_true rfl⟩ ⟨Nat.le_of_ble_eq_true rfl, Nat.le_of_ble_eq_true rfl⟩ rfl rfl (Nat.le_of_ble_eq_true rfl) dX8_either5_1 (fun _ q8 _ => ?_)
  refine z_name (fun v9 => ?_)
  refine z_istore_n X dX8_either5_4 rfl (Nat.le_of_ble_eq_true rfl) rfl ?_
  exact z_sub [1, 0] (J5 _ _ _) rfl
theorem zw_595 : Cond.methodLink RX8 227 yX8_either5 ∈ wsL_law := zr_15 _ (by decide +kernel)
theorem zw_596 : Cond.instanceMethod yX8_either5 ∈ wsL_law := zr_15 _ (by decide +kernel)
theorem zw_597 : Cond.selects RX8 yX8_either5 yX8_either5 ∈ wsL_law := zr_15 _ (by decide +kernel)
theorem zw_598 : Cond.code yX8_either5 cX8_either5 3 (some .int) ∈ wsL_law := zr_16 _ (by decide +kernel)
theorem hk_X8_227 : ∀ w ∈ ([Cond.methodLink RX8 227 yX8_either5, Cond.instanceMethod yX8_either5, Cond.selects RX8 yX8_either5 yX8_either5, Cond.initialized RX8, Cond.code yX8_either5 cX8_either5 3 (some .int)] : List Cond), w ∈ wsL_law := List.forall_mem_cons.mpr ⟨zw_595, List.forall_mem_cons.mpr ⟨zw_596, List.forall_mem_cons.mpr ⟨zw_597, List.forall_mem_cons.mpr ⟨zw_525, List.forall_mem_cons.mpr ⟨zw_598, fun _ h => absurd h List.not_mem_nil⟩⟩⟩⟩⟩
theorem hd_X8_either5 : yX8_either5.cls = RX8 ∧ yX8_either5.cls ≠ "java/lang/invoke/MethodHandle" ∧ yX8_either5.cls ≠ "java/lang/invoke/VarHandle" ∧ (parseMethodDescriptor yX8_either5.desc).map (fun d => d.parameters.length) = some 0 := by decide +kernel
abbrev rmX8_atom4 : Room := { frames := 11, cells := 0, slots := 0, locals := 263 }
def fX8_atom4_j71 (this : Nat) (y1 : Int32) (st : zS) : Option (Int32 × zS) :=
  (zok spM st (some this) 8).bind fun o1 => (zok spM st (some this) 8).bind fun o2 => zlet (zp st o2 25 ((st.2.1 o1 25) - (1 : Int32))) fun st3 => (zok spM st3 (some this) 8).bind fun o4 => if (st3.2.1 o4 26) = 0 then ((zok spM st3 (some this) 8).bind fun o6 => (fX8_next o6 st3).bind fun q5 => some (y1, q5.2)) else (some (y1, st3))
def fX8_atom4_j157 (this : Nat) (y1 : Int32) (st : zS) : Option (Int32 × zS) :=
  (zok spM st (some this) 8).bind fun o8 => (fX8_fail o8 st).bind fun q7 => some (y1, q7.2)
def fX8_atom4_j123 (this : Nat) (y1 : Int32) (st : zS) : Option (Int32 × zS) :=
  (zok spM st (some this) 8).bind fun o9 => if (st.2.1 o9 26) = 0 then ((zok spM st (some this) 8).bind fun o10 => if (st.2.1 o10 22) = (1 : Int32) then ((zok spM st (some this) 8).bind fun o16 => (fX8_name o16 st).bind fun q11 => zlet (q11.1) fun v12 => (zok spM q11.2 (some this) 8).bind fun o13 => if (q11.2.2.1 o13 26) = 0 then ((zok spM q11.2 (some this) 8).bind fun o15 => (fX8_next o15 q11.2).bind fun q14 => some (v12, q14.2)) else (some (v12, q11.2))) else (fX8_atom4_j157 this y1 st)) else (fX8_atom4_j157 this y1 st)
def fX8_atom4 (this : Nat) (st : zS) : Option (Int32 × zS) :=
  (zok spM st (some this) 8).bind fun o43 => (fX8_isSign o43 (45 : Int32) st).bind fun q17 => if q17.1 = 0 then ((zok spM q17.2 (some this) 8).bind fun o34 => (fX8_isSign o34 (40 : Int32) q17.2).bind fun q18 => if q18.1 = 0 then ((zok spM q18.2 (some this) 8).bind fun o19 => if (q18.2.2.1 o19 26) = 0 then ((zok spM q18.2 (some this) 8).bind fun o20 => if (q18.2.2.1 o20 22) = (2 : Int32) then ((zok spM q18.2 (some this) 8).bind fun o21 => zlet (((q18.2.2.2.1 o21).toInt32)) fun v22 => (zok spM q18.2 (some this) 8).bind fun o24 => (fX8_next o24 q18.2).bind fun q23 => some (v22, q23.2)) else (fX8_atom4_j123 this (0 : Int32) q18.2)) else (fX8_atom4_j123 this (0 : Int32) q18.2)) else ((zok spM q18.2 (some this) 8).bind fun o33 => (fX8_opens o33 q18.2).bind fun q25 => if q25.1 = 0 then (some ((0 : Int32), q25.2)) else ((zok spM q25.2 (some this) 8).bind fun o32 => (fX8_either5 o32 q25.2).bind fun q26 => zlet (q26.1) fun v27 => (zok spM q26.2 (some this) 8).bind fun o31 => (fX8_isSign o31 (41 : Int32) q26.2).bind fun q28 => if q28.1 = 0 then ((zok spM q28.2 (some this) 8).bind fun o30 => (fX8_fail o30 q28.2).bind fun q29 => fX8_atom4_j71 this v27 q29.2) else (fX8_atom4_j71 this v27 q28.2)))) else ((zok spM q17.2 (some this) 8).bind fun o42 => (fX8_opens o42 q17.2).bind fun q35 => if q35.1 = 0 then (some ((0 : Int32), q35.2)) else ((zok spM q35.2 (some this) 8).bind fun o41 => (fX8_atom5 o41 q35.2).bind fun q36 => zlet ((-q36.1)) fun v37 => (zok spM q36.2 (some this) 8).bind fun o38 => (zok spM q36.2 (some this) 8).bind fun o39 => zlet (zp q36.2 o39 25 ((q36.2.2.1 o38 25) - (1 : Int32))) fun st40 => some (v37, st40)))
set_option maxRecDepth 100000 in
set_option maxHeartbeats 4000000 in
theorem kX8_atom4 (l : Launch) (Z : zZ) (b : Nat) (x : Option Nat) (this : Nat) (st : zS) : zC l Z spM b x yX8_atom4 (.code yX8_atom4 cX8_atom4 2 (some .int)) (rmX8_atom4) rI [vP (some this)] st (fX8_atom4 this st) := by
  refine z_start (own := RX8) rfl (by decide +kernel) (Nat.le_of_ble_eq_true rfl) rfl (fun p e s m args below meth c res Q A X hK hr hlocks hQ => ?_)
  have J71 : ∀ (y1 : Int32) (st : zS), zs p l e (rmX8_atom4) s m args below meth c Q Z spM b x A 2 0 0 res (fX8_atom4_j71 this y1 st) 71 [(0, vP (some this)), (1, vI y1)] [] st := by
    intro y1 st
    rw [fX8_atom4_j71]
    refine z_aload_n X (q := 0) dX8_atom4_71 rfl rfl ?_
    refine z_dup X dX8_atom4_72 rfl ?_
    refine z_geti X hK (N := 46) (ci := 8) (k := 25) rfl (by decide) inlX8 (by decide) hf_X8_166 rfl spM_X8 rfl dX8_atom4_73 (fun o1 _ => ?_)
    refine z_iconst X (v := (1 : Int32)) dX8_atom4_76 (by decide) ?_
    refine z_isub X dX8_atom4_77 ?_
    refine z_puti X hK (N := 46) (ci := 8) (k := 25) rfl (by decide) inlX8 tyX8 tyX8_ok nmX8 (by decide) hf_X8_166 rfl rfl spM_X8 rfl (by decide +kernel) dX8_atom4_78 (fun o2 st3 _ => ?_)
    refine z_aload_n X (q := 0) dX8_atom4_81 rfl rfl ?_
    refine z_geti X hK (N := 46) (ci := 8) (k := 26) rfl (by decide) inlX8 (by decide) hf_X8_155 rfl spM_X8 rfl dX8_atom4_82 (fun o4 _ => ?_)
    refine z_if_ne X (tgt := 161) dX8_atom4_85 (by decide) (fun _ => ?_) (fun _ => ?_)
    · refine z_iload_n X (q := 1) dX8_atom4_161 rfl rfl ?_
      subst hQ; exact z_iret X hlocks hr dX8_atom4_162
    · refine z_aload_n X (q := 0) dX8_atom4_88 rfl rfl ?_
      refine z_callV X hK (As := []) (ci := 8) rfl (by decide) (fun o => (kX8_next l Z  b x o _)) hk_X8_172 ⟨rfl, rfl⟩ hd_X8_next ⟨Nat.le_of_ble_eq_true rfl, Nat.le_of_ble_eq_true rfl⟩ ⟨Nat.le_of_ble_eq_true rfl, Nat.le_of_ble_eq_true rfl⟩ rfl rfl (Nat.le_of_ble_eq_true rfl) dX8_atom4_89 (fun _ q5 _ => ?_)
      refine z_goto X (tgt := 161) dX8_atom4_92 (by decide) ?_
      refine z_iload_n X (q := 1) dX8_atom4_161 rfl rfl ?_
      subst hQ; exact z_iret X hlocks hr dX8_atom4_162
  have J157 : ∀ (y1 : Int32) (st : zS), zs p l e (rmX8_atom4) s m args below meth c Q Z spM b x A 2 0 0 res (fX8_atom4_j157 this y1 st) 157 [(0, vP (some this)), (1, vI y1)] [] st := by
    intro y1 st
    rw [fX8_atom4_j157]
    refine z_aload_n X (q := 0) dX8_atom4_157 rfl rfl ?_
    refine z_callV X hK (As := []) (ci := 8) rfl (by decide) (fun o => (kX8_fail l Z  b x o _)) hk_X8_169 ⟨rfl, rfl⟩ hd_X8_fail ⟨Nat.le_of_ble_eq_true rfl, Nat.le_of_ble_eq_true rfl⟩ ⟨Nat.le_of_ble_eq_true rfl, Nat.le_of_ble_eq_true rfl⟩ rfl rfl (Nat.le_of_ble_eq_true rfl) dX8_atom4_158 (fun _ q7 _ => ?_)
    refine z_iload_n X (q := 1) dX8_atom4_161 rfl rfl ?_
    subst hQ; exact z_iret X hlocks hr dX8_atom4_162
  have J123 : ∀ (y1 : Int32) (st : zS), zs p l e (rmX8_atom4) s m args below meth c Q Z spM b x A 2 0 0 res (fX8_atom4_j123 this y1 st) 123 [(0, vP (some this)), (1, vI y1)] [] st := by
    intro y1 st
    rw [fX8_atom4_j123]
    refine z_aload_n X (q := 0) dX8_atom4_123 rfl rfl ?_
    refine z_geti X hK (N := 46) (ci := 8) (k := 26) rfl (by decide) inlX8 (by decide) hf_X8_155 rfl spM_X8 rfl dX8_atom4_124 (fun o9 _ => ?_)
    refine z_if_ne X (tgt := 157) dX8_atom4_127 (by decide) (fun _ => ?_) (fun _ => ?_)
    · exact z_sub [0, 1] (J157 _ _) rfl
    · refine z_aload_n X (q := 0) dX8_atom4_130 rfl rfl ?_
      refine z_geti X hK (N := 46) (ci := 8) (k := 22) rfl (by decide) inlX8 (by decide) hf_X8_138 rfl spM_X8 rfl dX8_atom4_131 (fun o10 _ => ?_)
      refine z_iconst X (v := (1 : Int32)) dX8_atom4_134 (by decide) ?_
      refine z_icmp_ne X (tgt := 157) dX8_atom4_135 (by decide) (fun _ => ?_) (fun _ => ?_)
      · exact z_sub [0, 1] (J157 _ _) rfl
      · refine z_aload_n X (q := 0) dX8_atom4_138 rfl rfl ?_
        refine z_callV X hK (As := []) (ci := 8) rfl (by decide) (fun o => (kX8_name l Z  b x o _)) hk_X8_204 ⟨rfl, rfl⟩ hd_X8_name ⟨Nat.le_of_ble_eq_true rfl, Nat.le_of_ble_eq_true rfl⟩ ⟨Nat.le_of_ble_eq_true rfl, Nat.le_of_ble_eq_true rfl⟩ rfl rfl (Nat.le_of_ble_eq_true rfl) dX8_atom4_139 (fun _ q11 _ => ?_)
        refine z_name (fun v12 => ?_)
        refine z_istore_n X dX8_atom4_142 rfl (Nat.le_of_ble_eq_true rfl) rfl ?_
        refine z_aload_n X (q := 1) dX8_atom4_143 rfl rfl ?_
        refine z_geti X hK (N := 46) (ci := 8) (k := 26) rfl (by decide) inlX8 (by decide) hf_X8_155 rfl spM_X8 rfl dX8_atom4_144 (fun o13 _ => ?_)
        refine z_if_ne X (tgt := 161) dX8_atom4_147 (by decide) (fun _ => ?_) (fun _ => ?_)
        · refine z_iload_n X (q := 0) dX8_atom4_161 rfl rfl ?_
          subst hQ; exact z_iret X hlocks hr dX8_atom4_162
        · refine z_aload_n X (q := 1) dX8_atom4_150 rfl rfl ?_
          refine z_callV X hK (As := []) (ci := 8) rfl (by decide) (fun o => (kX8_next l Z  b x o _)) hk_X8_172 ⟨rfl, rfl⟩ hd_X8_next ⟨Nat.le_of_ble_eq_true rfl, Nat.le_of_ble_eq_true rfl⟩ ⟨Nat.le_of_ble_eq_true rfl, Nat.le_of_ble_eq_true rfl⟩ rfl rfl (Nat.le_of_ble_eq_true rfl) dX8_atom4_151 (fun _ q14 _ => ?_)
          refine z_goto X (tgt := 161) dX8_atom4_154 (by decide) ?_
          refine z_iload_n X (q := 0) dX8_atom4_161 rfl rfl ?_
          subst hQ; exact z_iret X hlocks hr dX8_atom4_162
  rw [fX8_atom4]
  refine z_iconst X (v := (0 : Int32)) dX8_atom4_0 (by decide) ?_
  refine z_istore_n X dX8_atom4_1 rfl (Nat.le_of_ble_eq_true rfl) rfl ?_
  refine z_aload_n X (q := 1) dX8_atom4_2 rfl rfl ?_
  refine z_bipush X (v := (45 : Int32)) dX8_atom4_3 (by decide) ?_
  refine z_callV X hK (As := [vI (45 : Int32)]) (ci := 8) rfl (by decide) (fun o => (kX8_isSign l Z  b x o _ _)) hk_X8_197 ⟨rfl, rfl⟩ hd_X8_isSign ⟨Nat.le_of_ble_eq_true rfl, Nat.le_of_ble_eq_true rfl⟩ ⟨Nat.le_of_ble_eq_true rfl, Nat.le_of_ble_eq_true rfl⟩ rfl rfl (Nat.le_of_ble_eq_true rfl) dX8_atom4_5 (fun _ q17 _ => ?_)
  refine z_if_eq X (tgt := 37) dX8_atom4_8 (by decide) (fun _ => ?_) (fun _ => ?_)
  · refine z_aload_n X (q := 1) dX8_atom4_37 rfl rfl ?_
    refine z_bipush X (v := (40 : Int32)) dX8_atom4_38 (by decide) ?_
    refine z_callV X hK (As := [vI (40 : Int32)]) (ci := 8) rfl (by decide) (fun o => (kX8_isSign l Z  b x o _ _)) hk_X8_197 ⟨rfl, rfl⟩ hd_X8_isSign ⟨Nat.le_of_ble_eq_true rfl, Nat.le_of_ble_eq_true rfl⟩ ⟨Nat.le_of_ble_eq_true rfl, Nat.le_of_ble_eq_true rfl⟩ rfl rfl (Nat.le_of_ble_eq_true rfl) dX8_atom4_40 (fun _ q18 _ => ?_)
    refine z_if_eq X (tgt := 95) dX8_atom4_43 (by decide) (fun _ => ?_) (fun _ => ?_)
    · refine z_aload_n X (q := 1) dX8_atom4_95 rfl rfl ?_
      refine z_geti X hK (N := 46) (ci := 8) (k := 26) rfl (by decide) inlX8 (by decide) hf_X8_155 rfl spM_X8 rfl dX8_atom4_96 (fun o19 _ => ?_)
      refine z_if_ne X (tgt := 123) dX8_atom4_99 (by decide) (fun _ => ?_) (fun _ => ?_)
      · exact z_sub [1, 0] (J123 _ _) rfl
      · refine z_aload_n X (q := 1) dX8_atom4_102 rfl rfl ?_
        refine z_geti X hK (N := 46) (ci := 8) (k := 22) rfl (by decide) inlX8 (by decide) hf_X8_138 rfl spM_X8 rfl dX8_atom4_103 (fun o20 _ => ?_)
        refine z_iconst X (v := (2 : Int32)) dX8_atom4_106 (by decide) ?_
        refine z_icmp_ne X (tgt := 123) dX8_atom4_107 (by decide) (fun _ => ?_) (fun _ => ?_)
        · exact z_sub [1, 0] (J123 _ _) rfl
        · refine z_aload_n X (q := 1) dX8_atom4_110 rfl rfl ?_
          refine z_getl X hK (N := 46) (ci := 8) (k := 24) rfl (by decide) inlX8 (by decide) hf_X8_149 rfl spM_X8 rfl dX8_atom4_111 (fun o21 _ => ?_)
          refine z_l2i X dX8_atom4_114 ?_
          refine z_name (fun v22 => ?_)
          refine z_istore_n X dX8_atom4_115 rfl (Nat.le_of_ble_eq_true rfl) rfl ?_
          refine z_aload_n X (q := 1) dX8_atom4_116 rfl rfl ?_
          refine z_callV X hK (As := []) (ci := 8) rfl (by decide) (fun o => (kX8_next l Z  b x o _)) hk_X8_172 ⟨rfl, rfl⟩ hd_X8_next ⟨Nat.le_of_ble_eq_true rfl, Nat.le_of_ble_eq_true rfl⟩ ⟨Nat.le_of_ble_eq_true rfl, Nat.le_of_ble_eq_true rfl⟩ rfl rfl (Nat.le_of_ble_eq_true rfl) dX8_atom4_117 (fun _ q23 _ => ?_)
          refine z_goto X (tgt := 161) dX8_atom4_120 (by decide) ?_
          refine z_iload_n X (q := 0) dX8_atom4_161 rfl rfl ?_
          subst hQ; exact z_iret X hlocks hr dX8_atom4_162
    · refine z_aload_n X (q := 1) dX8_atom4_46 rfl rfl ?_
      refine z_callV X hK (As := []) (ci := 8) rfl (by decide) (fun o => (kX8_opens l Z  b x o _)) hk_X8_200 ⟨rfl, rfl⟩ hd_X8_opens ⟨Nat.le_of_ble_eq_true rfl, Nat.le_of_ble_eq_true rfl⟩ ⟨Nat.le_of_ble_eq_true rfl, Nat.le_of_ble_eq_true rfl⟩ rfl rfl (Nat.le_of_ble_eq_true rfl) dX8_atom4_47 (fun _ q25 _ => ?_)
      refine z_if_eq X (tgt := 161) dX8_atom4_50 (by decide) (fun _ => ?_) (fun _ => ?_)
      · refine z_iload_n X (q := 0) dX8_atom4_161 rfl rfl ?_
        subst hQ; exact z_iret X hlocks hr dX8_atom4_162
      · refine z_aload_n X (q := 1) dX8_atom4_53 rfl rfl ?_
        refine z_callV X hK (As := []) (ci := 8) rfl (by decide) (fun o => (kX8_either5 l Z  b x o _)) hk_X8_227 ⟨rfl, rfl⟩ hd_X8_either5 ⟨Nat.le_of_ble_eq_true rfl, Nat.le_of_ble_eq_true rfl⟩ ⟨Nat.le_of_ble_eq_true rfl, Nat.le_of_ble_eq_true rfl⟩ rfl rfl (Nat.le_of_ble_eq_true rfl) dX8_atom4_54 (fun _ q26 _ => ?_)
        refine z_name (fun v27 => ?_)
        refine z_istore_n X dX8_atom4_57 rfl (Nat.le_of_ble_eq_true rfl) rfl ?_
        refine z_aload_n X (q := 1) dX8_atom4_58 rfl rfl ?_
        refine z_bipush X (v := (41 : Int32)) dX8_atom4_59 (by decide) ?_
        refine z_callV X hK (As := [vI (41 : Int32)]) (ci := 8) rfl (by decide) (fun o => (kX8_isSign l Z  b x o _ _)) hk_X8_197 ⟨rfl, rfl⟩ hd_X8_isSign ⟨Nat.le_of_ble_eq_true rfl, Nat.le_of_ble_eq_true rfl⟩ ⟨Nat.le_of_ble_eq_true rfl, Nat.le_of_ble_eq_true rfl⟩ rfl rfl (Nat.le_of_ble_eq_true rfl) dX8_atom4_61 (fun _ q28 _ => ?_)
        refine z_if_ne X (tgt := 71) dX8_atom4_64 (by decide) (fun _ => ?_) (fun _ => ?_)
        · exact z_sub [1, 0] (J71 _ _) rfl
        · refine z_aload_n X (q := 1) dX8_atom4_67 rfl rfl ?_
          refine z_callV X hK (As := []) (ci := 8) rfl (by decide) (fun o => (kX8_fail l Z  b x o _)) hk_X8_169 ⟨rfl, rfl⟩ hd_X8_fail ⟨Nat.le_of_ble_eq_true rfl, Nat.le_of_ble_eq_true rfl⟩ ⟨Nat.le_of_ble_eq_true rfl, Nat.le_of_ble_eq_true rfl⟩ rfl rfl (Nat.le_of_ble_eq_true rfl) dX8_atom4_68 (fun _ q29 _ => ?_)
          exact z_sub [1, 0] (J71 _ _) rfl
  · refine z_aload_n X (q := 1) dX8_atom4_11 rfl rfl ?_
    refine z_callV X hK (As := []) (ci := 8) rfl (by decide) (fun o => (kX8_opens l Z  b x o _)) hk_X8_200 ⟨rfl, rfl⟩ hd_X8_opens ⟨Nat.le_of_ble_eq_true rfl, Nat.le_of_ble_eq_true rfl⟩ ⟨Nat.le_of_ble_eq_true rfl, Nat.le_of_ble_eq_true rfl⟩ rfl rfl (Nat.le_of_ble_eq_true rfl) dX8_atom4_12 (fun _ q35 _ => ?_)
    refine z_if_eq X (tgt := 161) dX8_atom4_15 (by decide) (fun _ => ?_) (fun _ => ?_)
    · refine z_iload_n X (q := 0) dX8_atom4_161 rfl rfl ?_
      subst hQ; exact z_iret X hlocks hr dX8_atom4_162
    · refine z_aload_n X (q := 1) dX8_atom4_18 rfl rfl ?_
      refine z_callV X hK (As := []) (ci := 8) rfl (by decide) (fun o => (kX8_atom5 l Z  b x o _)) hk_X8_208 ⟨rfl, rfl⟩ hd_X8_atom5 ⟨Nat.le_of_ble_eq_true rfl, Nat.le_of_ble_eq_true rfl⟩ ⟨Nat.le_of_ble_eq_true rfl, Nat.le_of_ble_eq_true rfl⟩ rfl rfl (Nat.le_of_ble_eq_true rfl) dX8_atom4_19 (fun _ q36 _ => ?_)
      refine z_ineg X dX8_atom4_22 ?_
      refine z_name (fun v37 => ?_)
      refine z_istore_n X dX8_atom4_23 rfl (Nat.le_of_ble_eq_true rfl) rfl ?_
      refine z_aload_n X (q := 1) dX8_atom4_24 rfl rfl ?_
      refine z_dup X dX8_atom4_25 rfl ?_
      refine z_geti X hK (N := 46) (ci := 8) (k := 25) rfl (by decide) inlX8 (by decide) hf_X8_166 rfl spM_X8 rfl dX8_atom4_26 (fun o38 _ => ?_)
      refine z_iconst X (v := (1 : Int32)) dX8_atom4_29 (by decide) ?_
      refine z_isub X dX8_atom4_30 ?_
      refine z_puti X hK (N := 46) (ci := 8) (k := 25) rfl (by decide) inlX8 tyX8 tyX8_ok nmX8 (by decide) hf_X8_166 rfl rfl spM_X8 rfl (by decide +kernel) dX8_atom4_31 (fun o39 st40 _ => ?_)
      refine z_goto X (tgt := 161) dX8_atom4_34 (by decide) ?_
      refine z_iload_n X (q := 0) dX8_atom4_161 rfl rfl ?_
      subst hQ; exact z_iret X hlocks hr dX8_atom4_162
theorem zw_599 : Cond.methodLink RX8 230 yX8_atom4 ∈ wsL_law := zr_15 _ (by decide +kernel)
theorem zw_600 : Cond.instanceMethod yX8_atom4 ∈ wsL_law := zr_15 _ (by decide +kernel)
theorem zw_601 : Cond.selects RX8 yX8_atom4 yX8_atom4 ∈ wsL_law := zr_15 _ (by decide +kernel)
theorem zw_602 : Cond.code yX8_atom4 cX8_atom4 2 (some .int) ∈ wsL_law := zr_15 _ (by decide +kernel)
theorem hk_X8_230 : ∀ w ∈ ([Cond.methodLink RX8 230 yX8_atom4, Cond.instanceMethod yX8_atom4, Cond.selects RX8 yX8_atom4 yX8_atom4, Cond.initialized RX8, Cond.code yX8_atom4 cX8_atom4 2 (some .int)] : List Cond), w ∈ wsL_law := List.forall_mem_cons.mpr ⟨zw_599, List.forall_mem_cons.mpr ⟨zw_600, List.forall_mem_cons.mpr ⟨zw_601, List.forall_mem_cons.mpr ⟨zw_525, List.forall_mem_cons.mpr ⟨zw_602, fun _ h => absurd h List.not_mem_nil⟩⟩⟩⟩⟩
theorem hd_X8_atom4 : yX8_atom4.cls = RX8 ∧ yX8_atom4.cls ≠ "java/lang/invoke/MethodHandle" ∧ yX8_atom4.cls ≠ "java/lang/invoke/VarHandle" ∧ (parseMethodDescriptor yX8_atom4.desc).map (fun d => d.parameters.length) = some 0 := by decide +kernel
abbrev rmX8_term4 : Room := { frames := 12, cells := 0, slots := 0, locals := 284 }
def fX8_term4_L5 (this : Nat) : Nat → Int32 → zS → Option (Int32 × zS)
  | 0, _, _ => none
  | n + 1, y1, st => (zok spM st (some this) 8).bind fun o7 => (fX8_isSign o7 (42 : Int32) st).bind fun q1 => if q1.1 = 0 then (some (y1, q1.2)) else ((zok spM q1.2 (some this) 8).bind fun o6 => (fX8_next o6 q1.2).bind fun q2 => (zok spM q2.2 (some this) 8).bind fun o5 => (fX8_atom4 o5 q2.2).bind fun q3 => zlet ((y1 * q3.1)) fun v4 => (fX8_term4_L5 this n) v4 q3.2)
def fX8_term4 (this : Nat) (st : zS) : Option (Int32 × zS) :=
  (zok spM st (some this) 8).bind fun o10 => (fX8_atom4 o10 st).bind fun q8 => zlet (q8.1) fun v9 => fX8_term4_L5 this zF v9 q8.2
set_option maxRecDepth 100000 in
set_option maxHeartbeats 4000000 in
theorem kX8_term4 (l : Launch) (Z : zZ) (b : Nat) (x : Option Nat) (this : Nat) (st : zS) : zC l Z spM b x yX8_term4 (.code yX8_term4 cX8_term4 2 (some .int)) (rmX8_term4) rI [vP (some this)] st (fX8_term4 this st) := by
  refine z_start (own := RX8) rfl (by decide +kernel) (Nat.le_of_ble_eq_true rfl) rfl (fun p e s m args below meth c res Q A X hK hr hlocks hQ => ?_)
  have J5 : ∀ (n5 : Nat) (y1 : Int32) (st : zS), zs p l e (rmX8_term4) s m args below meth c Q Z spM b x A 2 0 0 res (fX8_term4_L5 this n5 y1 st) 5 [(0, vP (some this)), (1, vI y1)] [] st := by
    intro n5
    induction n5 with
    | zero => intros; exact z_none
    | succ n5 ih5 =>
      intro y1 st
      rw [fX8_term4_L5]
      refine z_aload_n X (q := 0) dX8_term4_5 rfl rfl ?_
      refine z_bipush X (v := (42 : Int32)) dX8_term4_6 (by decide) ?_
      refine z_callV X hK (As := [vI (42 : Int32)]) (ci := 8) rfl (by decide) (fun o => (kX8_isSign l Z  b x o _ _)) hk_X8_197 ⟨rfl, rfl⟩ hd_X8_isSign ⟨Nat.le_of_ble_eq_true rfl, Nat.le_of_ble_eq_true rfl⟩ ⟨Nat.le_of_ble_eq_true rfl, Nat.le_of_ble_eq_true rfl⟩ rfl rfl (Nat.le_of_ble_eq_true rfl) dX8_term4_8 (fun _ q1 _ => ?_)
      refine z_if_eq X (tgt := 28) dX8_term4_11 (by decide) (fun _ => ?_) (fun _ => ?_)
      · refine z_iload_n X (q := 1) dX8_term4_28 rfl rfl ?_
        subst hQ; exact z_iret X hlocks hr dX8_term4_29
      · refine z_aload_n X (q := 0) dX8_term4_14 rfl rfl ?_
        refine z_callV X hK (As := []) (ci := 8) rfl (by decide) (fun o => (kX8_next l Z  b x o _)) hk_X8_172 ⟨rfl, rfl⟩ hd_X8_next ⟨Nat.le_of_ble_eq_true rfl, Nat.le_of_ble_eq_true rfl⟩ ⟨Nat.le_of_ble_eq_true rfl, Nat.le_of_ble_eq_true rfl⟩ rfl rfl (Nat.le_of_ble_eq_true rfl) dX8_term4_15 (fun _ q2 _ => ?_)
        refine z_iload_n X (q := 1) dX8_term4_18 rfl rfl ?_
        refine z_aload_n X (q := 0) dX8_term4_19 rfl rfl ?_
        refine z_callV X hK (As := []) (ci := 8) rfl (by decide) (fun o => (kX8_atom4 l Z  b x o _)) hk_X8_230 ⟨rfl, rfl⟩ hd_X8_atom4 ⟨Nat.le_of_ble_eq_true rfl, Nat.le_of_ble_eq_true rfl⟩ ⟨Nat.le_of_ble_eq_true rfl, Nat.le_of_ble_eq_true rfl⟩ rfl rfl (Nat.le_of_ble_eq_true rfl) dX8_term4_20 (fun _ q3 _ => ?_)
        refine z_imul X dX8_term4_23 ?_
        refine z_name (fun v4 => ?_)
        refine z_istore_n X dX8_term4_24 rfl (Nat.le_of_ble_eq_true rfl) rfl ?_
        refine z_goto X (tgt := 5) dX8_term4_25 (by decide) ?_
        exact z_sub [1, 0] (ih5 _ _) rfl
  rw [fX8_term4]
  refine z_aload_n X (q := 0) dX8_term4_0 rfl rfl ?_
  refine z_callV X hK (As := []) (ci := 8) rfl (by decide) (fun o => (kX8_atom4 l Z  b x o _)) hk_X8_230 ⟨rfl, rfl⟩ hd_X8_atom4 ⟨Nat.le_of_ble_eq_true rfl, Nat.le_of_ble_eq_true rfl⟩ ⟨Nat.le_of_ble_eq_true rfl, Nat.le_of_ble_eq_true rfl⟩ rfl rfl (Nat.le_of_ble_eq_true rfl) dX8_term4_1 (fun _ q8 _ => ?_)
  refine z_name (fun v9 => ?_)
  refine z_istore_n X dX8_term4_4 rfl (Nat.le_of_ble_eq_true rfl) rfl ?_
  exact z_sub [1, 0] (J5 _ _ _) rfl
theorem zw_603 : Cond.methodLink RX8 233 yX8_term4 ∈ wsL_law := zr_15 _ (by decide +kernel)
theorem zw_604 : Cond.instanceMethod yX8_term4 ∈ wsL_law := zr_15 _ (by decide +kernel)
theorem zw_605 : Cond.selects RX8 yX8_term4 yX8_term4 ∈ wsL_law := zr_15 _ (by decide +kernel)
theorem zw_606 : Cond.code yX8_term4 cX8_term4 2 (some .int) ∈ wsL_law := zr_15 _ (by decide +kernel)
theorem hk_X8_233 : ∀ w ∈ ([Cond.methodLink RX8 233 yX8_term4, Cond.instanceMethod yX8_term4, Cond.selects RX8 yX8_term4 yX8_term4, Cond.initialized RX8, Cond.code yX8_term4 cX8_term4 2 (some .int)] : List Cond), w ∈ wsL_law := List.forall_mem_cons.mpr ⟨zw_603, List.forall_mem_cons.mpr ⟨zw_604, List.forall_mem_cons.mpr ⟨zw_605, List.forall_mem_cons.mpr ⟨zw_525, List.forall_mem_cons.mpr ⟨zw_606, fun _ h => absurd h List.not_mem_nil⟩⟩⟩⟩⟩
theorem hd_X8_term4 : yX8_term4.cls = RX8 ∧ yX8_term4.cls ≠ "java/lang/invoke/MethodHandle" ∧ yX8_term4.cls ≠ "java/lang/invoke/VarHandle" ∧ (parseMethodDescriptor yX8_term4.desc).map (fun d => d.parameters.length) = some 0 := by decide +kernel
abbrev rmX8_added4 : Room := { frames := 13, cells := 0, slots := 0, locals := 305 }
def fX8_added4_j62 (this : Nat) (k5 : Int32 → zS → Option (Int32 × zS)) (s0 : Int32) (st : zS) : Option (Int32 × zS) :=
  k5 s0 st
def fX8_added4_j39 (this : Nat) (k5 : Int32 → zS → Option (Int32 × zS)) (y1 : Int32) (s0 : Int32) (st : zS) : Option (Int32 × zS) :=
  (zok spM st (some this) 8).bind fun o5 => (fX8_next o5 st).bind fun q1 => (zok spM q1.2 (some this) 8).bind fun o4 => (fX8_term4 o4 q1.2).bind fun q2 => zlet (q2.1) fun v3 => if s0 = 0 then (fX8_added4_j62 this k5 (y1 - v3) q2.2) else (fX8_added4_j62 this k5 (y1 + v3) q2.2)
def fX8_added4_j23 (this : Nat) (k5 : Int32 → zS → Option (Int32 × zS)) (y1 : Int32) (st : zS) : Option (Int32 × zS) :=
  (zok spM st (some this) 8).bind fun o6 => if (lg_cmp (st.2.2.1 o6) (43 : Int64)) = 0 then (fX8_added4_j39 this k5 y1 (1 : Int32) st) else (fX8_added4_j39 this k5 y1 (0 : Int32) st)
def fX8_added4_L5 (this : Nat) : Nat → Int32 → zS → Option (Int32 × zS)
  | 0, _, _ => none
  | n + 1, y1, st => (zok spM st (some this) 8).bind fun o10 => (fX8_isSign o10 (43 : Int32) st).bind fun q7 => if q7.1 = 0 then ((zok spM q7.2 (some this) 8).bind fun o9 => (fX8_isSign o9 (45 : Int32) q7.2).bind fun q8 => if q8.1 = 0 then (some (y1, q8.2)) else (fX8_added4_j23 this (fX8_added4_L5 this n) y1 q8.2)) else (fX8_added4_j23 this (fX8_added4_L5 this n) y1 q7.2)
def fX8_added4 (this : Nat) (st : zS) : Option (Int32 × zS) :=
  (zok spM st (some this) 8).bind fun o13 => (fX8_term4 o13 st).bind fun q11 => zlet (q11.1) fun v12 => fX8_added4_L5 this zF v12 q11.2
set_option maxRecDepth 100000 in
set_option maxHeartbeats 4000000 in
theorem kX8_added4 (l : Launch) (Z : zZ) (b : Nat) (x : Option Nat) (this : Nat) (st : zS) : zC l Z spM b x yX8_added4 (.code yX8_added4 cX8_added4 4 (some .int)) (rmX8_added4) rI [vP (some this)] st (fX8_added4 this st) := by
  refine z_start (own := RX8) rfl (by decide +kernel) (Nat.le_of_ble_eq_true rfl) rfl (fun p e s m args below meth c res Q A X hK hr hlocks hQ => ?_)
  have J5 : ∀ (n5 : Nat) (y1 : Int32) (st : zS), zs p l e (rmX8_added4) s m args below meth c Q Z spM b x A 4 0 0 res (fX8_added4_L5 this n5 y1 st) 5 [(0, vP (some this)), (1, vI y1)] [] st := by
    intro n5
    induction n5 with
    | zero => intros; exact z_none
    | succ n5 ih5 =>
      have J62 : ∀ (s0 : Int32) (st : zS), zs p l e (rmX8_added4) s m args below meth c Q Z spM b x A 4 0 0 res (fX8_added4_j62 this (fX8_added4_L5 this n5) s0 st) 62 [(0, vP (some this))] [vI s0] st := by
        intro s0 st
        rw [fX8_added4_j62]
        refine z_istore_n X dX8_added4_62 rfl (Nat.le_of_ble_eq_true rfl) rfl ?_
        refine z_goto X (tgt := 5) dX8_added4_63 (by decide) ?_
        exact z_sub [1, 0] (ih5 _ _) rfl
      have J39 : ∀ (y1 : Int32) (s0 : Int32) (st : zS), zs p l e (rmX8_added4) s m args below meth c Q Z spM b x A 4 0 0 res (fX8_added4_j39 this (fX8_added4_L5 this n5) y1 s0 st) 39 [(0, vP (some this)), (1, vI y1)] [vI s0] st := by
        intro y1 s0 st
        rw [fX8_added4_j39]
        refine z_istore_n X dX8_added4_39 rfl (Nat.le_of_ble_eq_true rfl) rfl ?_
        refine z_aload_n X (q := 1) dX8_added4_40 rfl rfl ?_
        refine z_callV X hK (As := []) (ci := 8) rfl (by decide) (fun o => (kX8_next l Z  b x o _)) hk_X8_172 ⟨rfl, rfl⟩ hd_X8_next ⟨Nat.le_of_ble_eq_true rfl, Nat.le_of_ble_eq_true rfl⟩ ⟨Nat.le_of_ble_eq_true rfl, Nat.le_of_ble_eq_true rfl⟩ rfl rfl (Nat.le_of_ble_eq_true rfl) dX8_added4_41 (fun _ q1 _ => ?_)
        refine z_aload_n X (q := 1) dX8_added4_44 rfl rfl ?_
        refine z_callV X hK (As := []) (ci := 8) rfl (by decide) (fun o => (kX8_term4 l Z  b x o _)) hk_X8_233 ⟨rfl, rfl⟩ hd_X8_term4 ⟨Nat.le_of_ble_eq_true rfl, Nat.le_of_ble_eq_true rfl⟩ ⟨Nat.le_of_ble_eq_true rfl, Nat.le_of_ble_eq_true rfl⟩ rfl rfl (Nat.le_of_ble_eq_true rfl) dX8_added4_45 (fun _ q2 _ => ?_)
        refine z_name (fun v3 => ?_)
        refine z_istore_n X dX8_added4_48 rfl (Nat.le_of_ble_eq_true rfl) rfl ?_
        refine z_iload_n X (q := 1) dX8_added4_49 rfl rfl ?_
        refine z_if_eq X (tgt := 59) dX8_added4_50 (by decide) (fun _ => ?_) (fun _ => ?_)
        · refine z_iload_n X (q := 3) dX8_added4_59 rfl rfl ?_
          refine z_iload_n X (q := 0) dX8_added4_60 rfl rfl ?_
          refine z_isub X dX8_added4_61 ?_
          exact z_sub [2] (J62 _ _) rfl
        · refine z_iload_n X (q := 3) dX8_added4_53 rfl rfl ?_
          refine z_iload_n X (q := 0) dX8_added4_54 rfl rfl ?_
          refine z_iadd X dX8_added4_55 ?_
          refine z_goto X (tgt := 62) dX8_added4_56 (by decide) ?_
          exact z_sub [2] (J62 _ _) rfl
      have J23 : ∀ (y1 : Int32) (st : zS), zs p l e (rmX8_added4) s m args below meth c Q Z spM b x A 4 0 0 res (fX8_added4_j23 this (fX8_added4_L5 this n5) y1 st) 23 [(0, vP (some this)), (1, vI y1)] [] st := by
        intro y1 st
        rw [fX8_added4_j23]
        refine z_aload_n X (q := 0) dX8_added4_23 rfl rfl ?_
        refine z_getl X hK (N := 46) (ci := 8) (k := 24) rfl (by decide) inlX8 (by decide) hf_X8_149 rfl spM_X8 rfl dX8_added4_24 (fun o6 _ => ?_)
        refine z_ldc2 X (v := (43 : Int64)) (hc_X8_214) dX8_added4_27 ?_
        refine z_lcmp X dX8_added4_30 ?_
        refine z_if_ne X (tgt := 38) dX8_added4_31 (by decide) (fun _ => ?_) (fun _ => ?_)
        · refine z_iconst X (v := (0 : Int32)) dX8_added4_38 (by decide) ?_
          exact z_sub [0, 1] (J39 _ _ _) rfl
        · refine z_iconst X (v := (1 : Int32)) dX8_added4_34 (by decide) ?_
          refine z_goto X (tgt := 39) dX8_added4_35 (by decide) ?_
          exact z_sub [0, 1] (J39 _ _ _) rfl
      intro y1 st
      rw [fX8_added4_L5]
      refine z_aload_n X (q := 0) dX8_added4_5 rfl rfl ?_
      refine z_bipush X (v := (43 : Int32)) dX8_added4_6 (by decide) ?_
      refine z_callV X hK (As := [vI (43 : Int32)]) (ci := 8) rfl (by decide) (fun o => (kX8_isSign l Z  b x o _ _)) hk_X8_197 ⟨rfl, rfl⟩ hd_X8_isSign ⟨Nat.le_of_ble_eq_true rfl, Nat.le_of_ble_eq_true rfl⟩ ⟨Nat.le_of_ble_eq_true rfl, Nat.le_of_ble_eq_true rfl⟩ rfl rfl (Nat.le_of_ble_eq_true rfl) dX8_added4_8 (fun _ q7 _ => ?_)
      refine z_if_ne X (tgt := 23) dX8_added4_11 (by decide) (fun _ => ?_) (fun _ => ?_)
      · exact z_sub [0, 1] (J23 _ _) rfl
      · refine z_aload_n X (q := 0) dX8_added4_14 rfl rfl ?_
        refine z_bipush X (v := (45 : Int32)) dX8_added4_15 (by decide) ?_
        refine z_callV X hK (As := [vI (45 : Int32)]) (ci := 8) rfl (by decide) (fun o => (kX8_isSign l Z  b x o _ _)) hk_X8_197 ⟨rfl, rfl⟩ hd_X8_isSign ⟨Nat.le_of_ble_eq_true rfl, Nat.le_of_ble_eq_true rfl⟩ ⟨Nat.le_of_ble_eq_true rfl, Nat.le_of_ble_eq_true rfl⟩ rfl rfl (Nat.le_of_ble_eq_true rfl) dX8_added4_17 (fun _ q8 _ => ?_)
        refine z_if_eq X (tgt := 66) dX8_added4_20 (by decide) (fun _ => ?_) (fun _ => ?_)
        · refine z_iload_n X (q := 1) dX8_added4_66 rfl rfl ?_
          subst hQ; exact z_iret X hlocks hr dX8_added4_67
        · exact z_sub [0, 1] (J23 _ _) rfl
  rw [fX8_added4]
  refine z_aload_n X (q := 0) dX8_added4_0 rfl rfl ?_
  refine z_callV X hK (As := []) (ci := 8) rfl (by decide) (fun o => (kX8_term4 l Z  b x o _)) hk_X8_233 ⟨rfl, rfl⟩ hd_X8_term4 ⟨Nat.le_of_ble_eq_true rfl, Nat.le_of_ble_eq_true rfl⟩ ⟨Nat.le_of_ble_eq_true rfl, Nat.le_of_ble_eq_true rfl⟩ rfl rfl (Nat.le_of_ble_eq_true rfl) dX8_added4_1 (fun _ q11 _ => ?_)
  refine z_name (fun v12 => ?_)
  refine z_istore_n X dX8_added4_4 rfl (Nat.le_of_ble_eq_true rfl) rfl ?_
  exact z_sub [1, 0] (J5 _ _ _) rfl
theorem zw_607 : Cond.methodLink RX8 236 yX8_added4 ∈ wsL_law := zr_15 _ (by decide +kernel)
theorem zw_608 : Cond.instanceMethod yX8_added4 ∈ wsL_law := zr_15 _ (by decide +kernel)
theorem zw_609 : Cond.selects RX8 yX8_added4 yX8_added4 ∈ wsL_law := zr_15 _ (by decide +kernel)
theorem zw_610 : Cond.code yX8_added4 cX8_added4 4 (some .int) ∈ wsL_law := zr_15 _ (by decide +kernel)
theorem hk_X8_236 : ∀ w ∈ ([Cond.methodLink RX8 236 yX8_added4, Cond.instanceMethod yX8_added4, Cond.selects RX8 yX8_added4 yX8_added4, Cond.initialized RX8, Cond.code yX8_added4 cX8_added4 4 (some .int)] : List Cond), w ∈ wsL_law := List.forall_mem_cons.mpr ⟨zw_607, List.forall_mem_cons.mpr ⟨zw_608, List.forall_mem_cons.mpr ⟨zw_609, List.forall_mem_cons.mpr ⟨zw_525, List.forall_mem_cons.mpr ⟨zw_610, fun _ h => absurd h List.not_mem_nil⟩⟩⟩⟩⟩
theorem hd_X8_added4 : yX8_added4.cls = RX8 ∧ yX8_added4.cls ≠ "java/lang/invoke/MethodHandle" ∧ yX8_added4.cls ≠ "java/lang/invoke/VarHandle" ∧ (parseMethodDescriptor yX8_added4.desc).map (fun d => d.parameters.length) = some 0 := by decide +kernel
abbrev rmX8_not4 : Room := { frames := 14, cells := 0, slots := 0, locals := 328 }
def fX8_not4_j120 (this : Nat) (st : zS) : Option (Int32 × zS) :=
  some ((1 : Int32), st)
def fX8_not4_j124 (this : Nat) (st : zS) : Option (Int32 × zS) :=
  some ((0 : Int32), st)
def fX8_not4_j93 (this : Nat) (y1 : Int32) (s0 : Int32) (st : zS) : Option (Int32 × zS) :=
  (zok spM st (some this) 8).bind fun o5 => (fX8_next o5 st).bind fun q1 => (zok spM q1.2 (some this) 8).bind fun o4 => (fX8_added4 o4 q1.2).bind fun q2 => zlet (q2.1) fun v3 => if s0 = 0 then (if y1 = v3 then (fX8_not4_j120 this q2.2) else (fX8_not4_j124 this q2.2)) else (if v3 ≤ y1 then (fX8_not4_j124 this q2.2) else (fX8_not4_j120 this q2.2))
def fX8_not4_j77 (this : Nat) (y1 : Int32) (st : zS) : Option (Int32 × zS) :=
  (zok spM st (some this) 8).bind fun o6 => if (lg_cmp (st.2.2.1 o6) (60 : Int64)) = 0 then (fX8_not4_j93 this y1 (1 : Int32) st) else (fX8_not4_j93 this y1 (0 : Int32) st)
def fX8_not4 (this : Nat) (st : zS) : Option (Int32 × zS) :=
  (zok spM st (some this) 8).bind fun o23 => (fX8_isWord o23 (110 : Int32) (111 : Int32) (116 : Int32) (0 : Int32) (0 : Int32) (0 : Int32) (0 : Int32) (0 : Int32) st).bind fun q7 => if q7.1 = 0 then ((zok spM q7.2 (some this) 8).bind fun o14 => (fX8_added4 o14 q7.2).bind fun q8 => zlet (q8.1) fun v9 => (zok spM q8.2 (some this) 8).bind fun o13 => (fX8_isSign o13 (60 : Int32) q8.2).bind fun q10 => if q10.1 = 0 then ((zok spM q10.2 (some this) 8).bind fun o12 => (fX8_isSign o12 (61 : Int32) q10.2).bind fun q11 => if q11.1 = 0 then (some (v9, q11.2)) else (fX8_not4_j77 this v9 q11.2)) else (fX8_not4_j77 this v9 q10.2)) else ((zok spM q7.2 (some this) 8).bind fun o22 => (fX8_opens o22 q7.2).bind fun q15 => if q15.1 = 0 then (some ((0 : Int32), q15.2)) else ((zok spM q15.2 (some this) 8).bind fun o21 => (fX8_not5 o21 q15.2).bind fun q16 => zlet (q16.1) fun v17 => (zok spM q16.2 (some this) 8).bind fun o18 => (zok spM q16.2 (some this) 8).bind fun o19 => zlet (zp q16.2 o19 25 ((q16.2.2.1 o18 25) - (1 : Int32))) fun st20 => if v17 = 0 then (some ((1 : Int32), st20)) else (some ((0 : Int32), st20))))
set_option maxRecDepth 100000 in
set_option maxHeartbeats 4000000 in
theorem kX8_not4 (l : Launch) (Z : zZ) (b : Nat) (x : Option Nat) (this : Nat) (st : zS) : zC l Z spM b x yX8_not4 (.code yX8_not4 cX8_not4 4 (some .int)) (rmX8_not4) rI [vP (some this)] st (fX8_not4 this st) := by
  refine z_start (own := RX8) rfl (by decide +kernel) (Nat.le_of_ble_eq_true rfl) rfl (fun p e s m args below meth c res Q A X hK hr hlocks hQ => ?_)
  have J120 : ∀ (st : zS), zs p l e (rmX8_not4) s m args below meth c Q Z spM b x A 4 0 0 res (fX8_not4_j120 this st) 120 [] [] st := by
    intro  st
    rw [fX8_not4_j120]
    refine z_iconst X (v := (1 : Int32)) dX8_not4_120 (by decide) ?_
    refine z_goto X (tgt := 125) dX8_not4_121 (by decide) ?_
    subst hQ; exact z_iret X hlocks hr dX8_not4_125
  have J124 : ∀ (st : zS), zs p l e (rmX8_not4) s m args below meth c Q Z spM b x A 4 0 0 res (fX8_not4_j124 this st) 124 [] [] st := by
    intro  st
    rw [fX8_not4_j124]
    refine z_iconst X (v := (0 : Int32)) dX8_not4_124 (by decide) ?_
    subst hQ; exact z_iret X hlocks hr dX8_not4_125
  have J93 : ∀ (y1 : Int32) (s0 : Int32) (st : zS), zs p l e (rmX8_not4) s m args below meth c Q Z spM b x A 4 0 0 res (fX8_not4_j93 this y1 s0 st) 93 [(0, vP (some this)), (1, vI y1)] [vI s0] st := by
    intro y1 s0 st
    rw [fX8_not4_j93]
    refine z_istore_n X dX8_not4_93 rfl (Nat.le_of_ble_eq_true rfl) rfl ?_
    refine z_aload_n X (q := 1) dX8_not4_94 rfl rfl ?_
    refine z_callV X hK (As := []) (ci := 8) rfl (by decide) (fun o => (kX8_next l Z  b x o _)) hk_X8_172 ⟨rfl, rfl⟩ hd_X8_next ⟨Nat.le_of_ble_eq_true rfl, Nat.le_of_ble_eq_true rfl⟩ ⟨Nat.le_of_ble_eq_true rfl, Nat.le_of_ble_eq_true rfl⟩ rfl rfl (Nat.le_of_ble_eq_true rfl) dX8_not4_95 (fun _ q1 _ => ?_)
    refine z_aload_n X (q := 1) dX8_not4_98 rfl rfl ?_
    refine z_callV X hK (As := []) (ci := 8) rfl (by decide) (fun o => (kX8_added4 l Z  b x o _)) hk_X8_236 ⟨rfl, rfl⟩ hd_X8_added4 ⟨Nat.le_of_ble_eq_true rfl, Nat.le_of_ble_eq_true rfl⟩ ⟨Nat.le_of_ble_eq_true rfl, Nat.le_of_ble_eq_true rfl⟩ rfl rfl (Nat.le_of_ble_eq_true rfl) dX8_not4_99 (fun _ q2 _ => ?_)
    refine z_name (fun v3 => ?_)
    refine z_istore_n X dX8_not4_102 rfl (Nat.le_of_ble_eq_true rfl) rfl ?_
    refine z_iload_n X (q := 1) dX8_not4_103 rfl rfl ?_
    refine z_if_eq X (tgt := 115) dX8_not4_104 (by decide) (fun _ => ?_) (fun _ => ?_)
    · refine z_iload_n X (q := 3) dX8_not4_115 rfl rfl ?_
      refine z_iload_n X (q := 0) dX8_not4_116 rfl rfl ?_
      refine z_icmp_ne X (tgt := 124) dX8_not4_117 (by decide) (fun _ => ?_) (fun _ => ?_)
      · exact z_sub [] (J124  _) rfl
      · exact z_sub [] (J120  _) rfl
    · refine z_iload_n X (q := 3) dX8_not4_107 rfl rfl ?_
      refine z_iload_n X (q := 0) dX8_not4_108 rfl rfl ?_
      refine z_icmp_ge X (tgt := 124) dX8_not4_109 (by decide) (fun _ => ?_) (fun _ => ?_)
      · exact z_sub [] (J124  _) rfl
      · refine z_goto X (tgt := 120) dX8_not4_112 (by decide) ?_
        exact z_sub [] (J120  _) rfl
  have J77 : ∀ (y1 : Int32) (st : zS), zs p l e (rmX8_not4) s m args below meth c Q Z spM b x A 4 0 0 res (fX8_not4_j77 this y1 st) 77 [(0, vP (some this)), (1, vI y1)] [] st := by
    intro y1 st
    rw [fX8_not4_j77]
    refine z_aload_n X (q := 0) dX8_not4_77 rfl rfl ?_
    refine z_getl X hK (N := 46) (ci := 8) (k := 24) rfl (by decide) inlX8 (by decide) hf_X8_149 rfl spM_X8 rfl dX8_not4_78 (fun o6 _ => ?_)
    refine z_ldc2 X (v := (60 : Int64)) (hc_X8_219) dX8_not4_81 ?_
    refine z_lcmp X dX8_not4_84 ?_
    refine z_if_ne X (tgt := 92) dX8_not4_85 (by decide) (fun _ => ?_) (fun _ => ?_)
    · refine z_iconst X (v := (0 : Int32)) dX8_not4_92 (by decide) ?_
      exact z_sub [0, 1] (J93 _ _ _) rfl
    · refine z_iconst X (v := (1 : Int32)) dX8_not4_88 (by decide) ?_
      refine z_goto X (tgt := 93) dX8_not4_89 (by decide) ?_
      exact z_sub [0, 1] (J93 _ _ _) rfl
  rw [fX8_not4]
  refine z_aload_n X (q := 0) dX8_not4_0 rfl rfl ?_
  refine z_bipush X (v := (110 : Int32)) dX8_not4_1 (by decide) ?_
  refine z_bipush X (v := (111 : Int32)) dX8_not4_3 (by decide) ?_
  refine z_bipush X (v := (116 : Int32)) dX8_not4_5 (by decide) ?_
  refine z_iconst X (v := (0 : Int32)) dX8_not4_7 (by decide) ?_
  refine z_iconst X (v := (0 : Int32)) dX8_not4_8 (by decide) ?_
  refine z_iconst X (v := (0 : Int32)) dX8_not4_9 (by decide) ?_
  refine z_iconst X (v := (0 : Int32)) dX8_not4_10 (by decide) ?_
  refine z_iconst X (v := (0 : Int32)) dX8_not4_11 (by decide) ?_
  refine z_callV X hK (As := [vI (110 : Int32), vI (111 : Int32), vI (116 : Int32), vI (0 : Int32), vI (0 : Int32), vI (0 : Int32), vI (0 : Int32), vI (0 : Int32)]) (ci := 8) rfl (by decide) (fun o => (kX8_isWord l Z  b x o _ _ _ _ _ _ _ _ _)) hk_X8_175 ⟨rfl, rfl⟩ hd_X8_isWord ⟨Nat.le_of_ble_eq_true rfl, Nat.le_of_ble_eq_true rfl⟩ ⟨Nat.le_of_ble_eq_true rfl, Nat.le_of_ble_eq_true rfl⟩ rfl rfl (Nat.le_of_ble_eq_true rfl) dX8_not4_12 (fun _ q7 _ => ?_)
  refine z_if_eq X (tgt := 52) dX8_not4_15 (by decide) (fun _ => ?_) (fun _ => ?_)
  · refine z_aload_n X (q := 0) dX8_not4_52 rfl rfl ?_
    refine z_callV X hK (As := []) (ci := 8) rfl (by decide) (fun o => (kX8_added4 l Z  b x o _)) hk_X8_236 ⟨rfl, rfl⟩ hd_X8_added4 ⟨Nat.le_of_ble_eq_true rfl, Nat.le_of_ble_eq_true rfl⟩ ⟨Nat.le_of_ble_eq_true rfl, Nat.le_of_ble_eq_true rfl⟩ rfl rfl (Nat.le_of_ble_eq_true rfl) dX8_not4_53 (fun _ q8 _ => ?_)
    refine z_name (fun v9 => ?_)
    refine z_istore_n X dX8_not4_56 rfl (Nat.le_of_ble_eq_true rfl) rfl ?_
    refine z_aload_n X (q := 1) dX8_not4_57 rfl rfl ?_
    refine z_bipush X (v := (60 : Int32)) dX8_not4_58 (by decide) ?_
    refine z_callV X hK (As := [vI (60 : Int32)]) (ci := 8) rfl (by decide) (fun o => (kX8_isSign l Z  b x o _ _)) hk_X8_197 ⟨rfl, rfl⟩ hd_X8_isSign ⟨Nat.le_of_ble_eq_true rfl, Nat.le_of_ble_eq_true rfl⟩ ⟨Nat.le_of_ble_eq_true rfl, Nat.le_of_ble_eq_true rfl⟩ rfl rfl (Nat.le_of_ble_eq_true rfl) dX8_not4_60 (fun _ q10 _ => ?_)
    refine z_if_ne X (tgt := 77) dX8_not4_63 (by decide) (fun _ => ?_) (fun _ => ?_)
    · exact z_sub [1, 0] (J77 _ _) rfl
    · refine z_aload_n X (q := 1) dX8_not4_66 rfl rfl ?_
      refine z_bipush X (v := (61 : Int32)) dX8_not4_67 (by decide) ?_
      refine z_callV X hK (As := [vI (61 : Int32)]) (ci := 8) rfl (by decide) (fun o => (kX8_isSign l Z  b x o _ _)) hk_X8_197 ⟨rfl, rfl⟩ hd_X8_isSign ⟨Nat.le_of_ble_eq_true rfl, Nat.le_of_ble_eq_true rfl⟩ ⟨Nat.le_of_ble_eq_true rfl, Nat.le_of_ble_eq_true rfl⟩ rfl rfl (Nat.le_of_ble_eq_true rfl) dX8_not4_69 (fun _ q11 _ => ?_)
      refine z_if_ne X (tgt := 77) dX8_not4_72 (by decide) (fun _ => ?_) (fun _ => ?_)
      · exact z_sub [1, 0] (J77 _ _) rfl
      · refine z_iload_n X (q := 0) dX8_not4_75 rfl rfl ?_
        subst hQ; exact z_iret X hlocks hr dX8_not4_76
  · refine z_aload_n X (q := 0) dX8_not4_18 rfl rfl ?_
    refine z_callV X hK (As := []) (ci := 8) rfl (by decide) (fun o => (kX8_opens l Z  b x o _)) hk_X8_200 ⟨rfl, rfl⟩ hd_X8_opens ⟨Nat.le_of_ble_eq_true rfl, Nat.le_of_ble_eq_true rfl⟩ ⟨Nat.le_of_ble_eq_true rfl, Nat.le_of_ble_eq_true rfl⟩ rfl rfl (Nat.le_of_ble_eq_true rfl) dX8_not4_19 (fun _ q15 _ => ?_)
    refine z_if_ne X (tgt := 27) dX8_not4_22 (by decide) (fun _ => ?_) (fun _ => ?_)
    · refine z_aload_n X (q := 0) dX8_not4_27 rfl rfl ?_
      refine z_callV X hK (As := []) (ci := 8) rfl (by decide) (fun o => (kX8_not5 l Z  b x o _)) hk_X8_221 ⟨rfl, rfl⟩ hd_X8_not5 ⟨Nat.le_of_ble_eq_true rfl, Nat.le_of_ble_eq_true rfl⟩ ⟨Nat.le_of_ble_eq_true rfl, Nat.le_of_ble_eq_true rfl⟩ rfl rfl (Nat.le_of_ble_eq_true rfl) dX8_not4_28 (fun _ q16 _ => ?_)
      refine z_name (fun v17 => ?_)
      refine z_istore_n X dX8_not4_31 rfl (Nat.le_of_ble_eq_true rfl) rfl ?_
      refine z_aload_n X (q := 1) dX8_not4_32 rfl rfl ?_
      refine z_dup X dX8_not4_33 rfl ?_
      refine z_geti X hK (N := 46) (ci := 8) (k := 25) rfl (by decide) inlX8 (by decide) hf_X8_166 rfl spM_X8 rfl dX8_not4_34 (fun o18 _ => ?_)
      refine z_iconst X (v := (1 : Int32)) dX8_not4_37 (by decide) ?_
      refine z_isub X dX8_not4_38 ?_
      refine z_puti X hK (N := 46) (ci := 8) (k := 25) rfl (by decide) inlX8 tyX8 tyX8_ok nmX8 (by decide) hf_X8_166 rfl rfl spM_X8 rfl (by decide +kernel) dX8_not4_39 (fun o19 st20 _ => ?_)
      refine z_iload_n X (q := 0) dX8_not4_42 rfl rfl ?_
      refine z_if_ne X (tgt := 50) dX8_not4_43 (by decide) (fun _ => ?_) (fun _ => ?_)
      · refine z_iconst X (v := (0 : Int32)) dX8_not4_50 (by decide) ?_
        subst hQ; exact z_iret X hlocks hr dX8_not4_51
      · refine z_iconst X (v := (1 : Int32)) dX8_not4_46 (by decide) ?_
        refine z_goto X (tgt := 51) dX8_not4_47 (by decide) ?_
        subst hQ; exact z_iret X hlocks hr dX8_not4_51
    · refine z_iconst X (v := (0 : Int32)) dX8_not4_25 (by decide) ?_
      subst hQ; exact z_iret X hlocks hr dX8_not4_26
theorem zw_611 : Cond.methodLink RX8 239 yX8_not4 ∈ wsL_law := zr_14 _ (by decide +kernel)
theorem zw_612 : Cond.instanceMethod yX8_not4 ∈ wsL_law := zr_14 _ (by decide +kernel)
theorem zw_613 : Cond.selects RX8 yX8_not4 yX8_not4 ∈ wsL_law := zr_14 _ (by decide +kernel)
theorem zw_614 : Cond.code yX8_not4 cX8_not4 4 (some .int) ∈ wsL_law := zr_14 _ (by decide +kernel)
theorem hk_X8_239 : ∀ w ∈ ([Cond.methodLink RX8 239 yX8_not4, Cond.instanceMethod yX8_not4, Cond.selects RX8 yX8_not4 yX8_not4, Cond.initialized RX8, Cond.code yX8_not4 cX8_not4 4 (some .int)] : List Cond), w ∈ wsL_law := List.forall_mem_cons.mpr ⟨zw_611, List.forall_mem_cons.mpr ⟨zw_612, List.forall_mem_cons.mpr ⟨zw_613, List.forall_mem_cons.mpr ⟨zw_525, List.forall_mem_cons.mpr ⟨zw_614, fun _ h => absurd h List.not_mem_nil⟩⟩⟩⟩⟩
theorem hd_X8_not4 : yX8_not4.cls = RX8 ∧ yX8_not4.cls ≠ "java/lang/invoke/MethodHandle" ∧ yX8_not4.cls ≠ "java/lang/invoke/VarHandle" ∧ (parseMethodDescriptor yX8_not4.desc).map (fun d => d.parameters.length) = some 0 := by decide +kernel
abbrev rmX8_both4 : Room := { frames := 15, cells := 0, slots := 0, locals := 351 }
def fX8_both4_j45 (this : Nat) (k5 : Int32 → zS → Option (Int32 × zS)) (s0 : Int32) (st : zS) : Option (Int32 × zS) :=
  k5 s0 st
def fX8_both4_j44 (this : Nat) (k5 : Int32 → zS → Option (Int32 × zS)) (st : zS) : Option (Int32 × zS) :=
  fX8_both4_j45 this k5 (0 : Int32) st
def fX8_both4_L5 (this : Nat) : Nat → Int32 → zS → Option (Int32 × zS)
  | 0, _, _ => none
  | n + 1, y1, st => (zok spM st (some this) 8).bind fun o7 => (fX8_isWord o7 (97 : Int32) (110 : Int32) (100 : Int32) (0 : Int32) (0 : Int32) (0 : Int32) (0 : Int32) (0 : Int32) st).bind fun q1 => if q1.1 = 0 then (some (y1, q1.2)) else ((zok spM q1.2 (some this) 8).bind fun o6 => (fX8_next o6 q1.2).bind fun q2 => (zok spM q2.2 (some this) 8).bind fun o5 => (fX8_not4 o5 q2.2).bind fun q3 => zlet (q3.1) fun v4 => if y1 = 0 then (fX8_both4_j44 this (fX8_both4_L5 this n) q3.2) else (if v4 = 0 then (fX8_both4_j44 this (fX8_both4_L5 this n) q3.2) else (fX8_both4_j45 this (fX8_both4_L5 this n) (1 : Int32) q3.2)))
def fX8_both4 (this : Nat) (st : zS) : Option (Int32 × zS) :=
  (zok spM st (some this) 8).bind fun o10 => (fX8_not4 o10 st).bind fun q8 => zlet (q8.1) fun v9 => fX8_both4_L5 this zF v9 q8.2
set_option maxRecDepth 100000 in
set_option maxHeartbeats 4000000 in
theorem kX8_both4 (l : Launch) (Z : zZ) (b : Nat) (x : Option Nat) (this : Nat) (st : zS) : zC l Z spM b x yX8_both4 (.code yX8_both4 cX8_both4 3 (some .int)) (rmX8_both4) rI [vP (some this)] st (fX8_both4 this st) := by
  refine z_start (own := RX8) rfl (by decide +kernel) (Nat.le_of_ble_eq_true rfl) rfl (fun p e s m args below meth c res Q A X hK hr hlocks hQ => ?_)
  have J5 : ∀ (n5 : Nat) (y1 : Int32) (st : zS), zs p l e (rmX8_both4) s m args below meth c Q Z spM b x A 3 0 0 res (fX8_both4_L5 this n5 y1 st) 5 [(0, vP (some this)), (1, vI y1)] [] st := by
    intro n5
    induction n5 with
    | zero => intros; exact z_none
    | succ n5 ih5 =>
      have J45 : ∀ (s0 : Int32) (st : zS), zs p l e (rmX8_both4) s m args below meth c Q Z spM b x A 3 0 0 res (fX8_both4_j45 this (fX8_both4_L5 this n5) s0 st) 45 [(0, vP (some this))] [vI s0] st := by
        intro s0 st
        rw [fX8_both4_j45]
        refine z_istore_n X dX8_both4_45 rfl (Nat.le_of_ble_eq_true rfl) rfl ?_
        refine z_goto X (tgt := 5) dX8_both4_46 (by decide) ?_
        exact z_sub [1, 0] (ih5 _ _) rfl
      have J44 : ∀ (st : zS), zs p l e (rmX8_both4) s m args below meth c Q Z spM b x A 3 0 0 res (fX8_both4_j44 this (fX8_both4_L5 this n5) st) 44 [(0, vP (some this))] [] st := by
        intro  st
        rw [fX8_both4_j44]
        refine z_iconst X (v := (0 : Int32)) dX8_both4_44 (by decide) ?_
        exact z_sub [0] (J45 _ _) rfl
      intro y1 st
      rw [fX8_both4_L5]
      refine z_aload_n X (q := 0) dX8_both4_5 rfl rfl ?_
      refine z_bipush X (v := (97 : Int32)) dX8_both4_6 (by decide) ?_
      refine z_bipush X (v := (110 : Int32)) dX8_both4_8 (by decide) ?_
      refine z_bipush X (v := (100 : Int32)) dX8_both4_10 (by decide) ?_
      refine z_iconst X (v := (0 : Int32)) dX8_both4_12 (by decide) ?_
      refine z_iconst X (v := (0 : Int32)) dX8_both4_13 (by decide) ?_
      refine z_iconst X (v := (0 : Int32)) dX8_both4_14 (by decide) ?_
      refine z_iconst X (v := (0 : Int32)) dX8_both4_15 (by decide) ?_
      refine z_iconst X (v := (0 : Int32)) dX8_both4_16 (by decide) ?_
      refine z_callV X hK (As := [vI (97 : Int32), vI (110 : Int32), vI (100 : Int32), vI (0 : Int32), vI (0 : Int32), vI (0 : Int32), vI (0 : Int32), vI (0 : Int32)]) (ci := 8) rfl (by decide) (fun o => (kX8_isWord l Z  b x o _ _ _ _ _ _ _ _ _)) hk_X8_175 ⟨rfl, rfl⟩ hd_X8_isWord ⟨Nat.le_of_ble_eq_true rfl, Nat.le_of_ble_eq_true rfl⟩ ⟨Nat.le_of_ble_eq_true rfl, Nat.le_of_ble_eq_true rfl⟩ rfl rfl (Nat.le_of_ble_eq_true rfl) dX8_both4_17 (fun _ q1 _ => ?_)
      refine z_if_eq X (tgt := 49) dX8_both4_20 (by decide) (fun _ => ?_) (fun _ => ?_)
      · refine z_iload_n X (q := 1) dX8_both4_49 rfl rfl ?_
        subst hQ; exact z_iret X hlocks hr dX8_both4_50
      · refine z_aload_n X (q := 0) dX8_both4_23 rfl rfl ?_
        refine z_callV X hK (As := []) (ci := 8) rfl (by decide) (fun o => (kX8_next l Z  b x o _)) hk_X8_172 ⟨rfl, rfl⟩ hd_X8_next ⟨Nat.le_of_ble_eq_true rfl, Nat.le_of_ble_eq_true rfl⟩ ⟨Nat.le_of_ble_eq_true rfl, Nat.le_of_ble_eq_true rfl⟩ rfl rfl (Nat.le_of_ble_eq_true rfl) dX8_both4_24 (fun _ q2 _ => ?_)
        refine z_aload_n X (q := 0) dX8_both4_27 rfl rfl ?_
        refine z_callV X hK (As := []) (ci := 8) rfl (by decide) (fun o => (kX8_not4 l Z  b x o _)) hk_X8_239 ⟨rfl, rfl⟩ hd_X8_not4 ⟨Nat.le_of_ble_eq_true rfl, Nat.le_of_ble_eq_true rfl⟩ ⟨Nat.le_of_ble_eq_true rfl, Nat.le_of_ble_eq_true rfl⟩ rfl rfl (Nat.le_of_ble_eq_true rfl) dX8_both4_28 (fun _ q3 _ => ?_)
        refine z_name (fun v4 => ?_)
        refine z_istore_n X dX8_both4_31 rfl (Nat.le_of_ble_eq_true rfl) rfl ?_
        refine z_iload_n X (q := 2) dX8_both4_32 rfl rfl ?_
        refine z_if_eq X (tgt := 44) dX8_both4_33 (by decide) (fun _ => ?_) (fun _ => ?_)
        · exact z_sub [1] (J44  _) rfl
        · refine z_iload_n X (q := 0) dX8_both4_36 rfl rfl ?_
          refine z_if_eq X (tgt := 44) dX8_both4_37 (by decide) (fun _ => ?_) (fun _ => ?_)
          · exact z_sub [1] (J44  _) rfl
          · refine z_iconst X (v := (1 : Int32)) dX8_both4_40 (by decide) ?_
            refine z_goto X (tgt := 45) dX8_both4_41 (by decide) ?_
            exact z_sub [1] (J45 _ _) rfl
  rw [fX8_both4]
  refine z_aload_n X (q := 0) dX8_both4_0 rfl rfl ?_
  refine z_callV X hK (As := []) (ci := 8) rfl (by decide) (fun o => (kX8_not4 l Z  b x o _)) hk_X8_239 ⟨rfl, rfl⟩ hd_X8_not4 ⟨Nat.le_of_ble_eq_true rfl, Nat.le_of_ble_eq_true rfl⟩ ⟨Nat.le_of_ble_eq_true rfl, Nat.le_of_ble_eq_true rfl⟩ rfl rfl (Nat.le_of_ble_eq_true rfl) dX8_both4_1 (fun _ q8 _ => ?_)
  refine z_name (fun v9 => ?_)
  refine z_istore_n X dX8_both4_4 rfl (Nat.le_of_ble_eq_true rfl) rfl ?_
  exact z_sub [1, 0] (J5 _ _ _) rfl
theorem zw_615 : Cond.methodLink RX8 242 yX8_both4 ∈ wsL_law := zr_16 _ (by decide +kernel)
theorem zw_616 : Cond.instanceMethod yX8_both4 ∈ wsL_law := zr_16 _ (by decide +kernel)
theorem zw_617 : Cond.selects RX8 yX8_both4 yX8_both4 ∈ wsL_law := zr_16 _ (by decide +kernel)
theorem zw_618 : Cond.code yX8_both4 cX8_both4 3 (some .int) ∈ wsL_law := zr_17 _ (by decide +kernel)
theorem hk_X8_242 : ∀ w ∈ ([Cond.methodLink RX8 242 yX8_both4, Cond.instanceMethod yX8_both4, Cond.selects RX8 yX8_both4 yX8_both4, Cond.initialized RX8, Cond.code yX8_both4 cX8_both4 3 (some .int)] : List Cond), w ∈ wsL_law := List.forall_mem_cons.mpr ⟨zw_615, List.forall_mem_cons.mpr ⟨zw_616, List.forall_mem_cons.mpr ⟨zw_617, List.forall_mem_cons.mpr ⟨zw_525, List.forall_mem_cons.mpr ⟨zw_618, fun _ h => absurd h List.not_mem_nil⟩⟩⟩⟩⟩
theorem hd_X8_both4 : yX8_both4.cls = RX8 ∧ yX8_both4.cls ≠ "java/lang/invoke/MethodHandle" ∧ yX8_both4.cls ≠ "java/lang/invoke/VarHandle" ∧ (parseMethodDescriptor yX8_both4.desc).map (fun d => d.parameters.length) = some 0 := by decide +kernel
abbrev rmX8_either4 : Room := { frames := 16, cells := 0, slots := 0, locals := 373 }
def fX8_either4_j44 (this : Nat) (k5 : Int32 → zS → Option (Int32 × zS)) (s0 : Int32) (st : zS) : Option (Int32 × zS) :=
  k5 s0 st
def fX8_either4_j39 (this : Nat) (k5 : Int32 → zS → Option (Int32 × zS)) (st : zS) : Option (Int32 × zS) :=
  fX8_either4_j44 this k5 (1 : Int32) st
def fX8_either4_L5 (this : Nat) : Nat → Int32 → zS → Option (Int32 × zS)
  | 0, _, _ => none
  | n + 1, y1, st => (zok spM st (some this) 8).bind fun o7 => (fX8_isWord o7 (111 : Int32) (114 : Int32) (0 : Int32) (0 : Int32) (0 : Int32) (0 : Int32) (0 : Int32) (0 : Int32) st).bind fun q1 => if q1.1 = 0 then (some (y1, q1.2)) else ((zok spM q1.2 (some this) 8).bind fun o6 => (fX8_next o6 q1.2).bind fun q2 => (zok spM q2.2 (some this) 8).bind fun o5 => (fX8_both4 o5 q2.2).bind fun q3 => zlet (q3.1) fun v4 => if y1 = 0 then (if v4 = 0 then (fX8_either4_j44 this (fX8_either4_L5 this n) (0 : Int32) q3.2) else (fX8_either4_j39 this (fX8_either4_L5 this n) q3.2)) else (fX8_either4_j39 this (fX8_either4_L5 this n) q3.2))
def fX8_either4 (this : Nat) (st : zS) : Option (Int32 × zS) :=
  (zok spM st (some this) 8).bind fun o10 => (fX8_both4 o10 st).bind fun q8 => zlet (q8.1) fun v9 => fX8_either4_L5 this zF v9 q8.2
set_option maxRecDepth 100000 in
set_option maxHeartbeats 4000000 in
theorem kX8_either4 (l : Launch) (Z : zZ) (b : Nat) (x : Option Nat) (this : Nat) (st : zS) : zC l Z spM b x yX8_either4 (.code yX8_either4 cX8_either4 3 (some .int)) (rmX8_either4) rI [vP (some this)] st (fX8_either4 this st) := by
  refine z_start (own := RX8) rfl (by decide +kernel) (Nat.le_of_ble_eq_true rfl) rfl (fun p e s m args below meth c res Q A X hK hr hlocks hQ => ?_)
  have J5 : ∀ (n5 : Nat) (y1 : Int32) (st : zS), zs p l e (rmX8_either4) s m args below meth c Q Z spM b x A 3 0 0 res (fX8_either4_L5 this n5 y1 st) 5 [(0, vP (some this)), (1, vI y1)] [] st := by
    intro n5
    induction n5 with
    | zero => intros; exact z_none
    | succ n5 ih5 =>
      have J44 : ∀ (s0 : Int32) (st : zS), zs p l e (rmX8_either4) s m args below meth c Q Z spM b x A 3 0 0 res (fX8_either4_j44 this (fX8_either4_L5 this n5) s0 st) 44 [(0, vP (some this))] [vI s0] st := by
        intro s0 st
        rw [fX8_either4_j44]
        refine z_istore_n X dX8_either4_44 rfl (Nat.le_of_ble_eq_true rfl) rfl ?_
        refine z_goto X (tgt := 5) dX8_either4_45 (by decide) ?_
        exact z_sub [1, 0] (ih5 _ _) rfl
      have J39 : ∀ (st : zS), zs p l e (rmX8_either4) s m args below meth c Q Z spM b x A 3 0 0 res (fX8_either4_j39 this (fX8_either4_L5 this n5) st) 39 [(0, vP (some this))] [] st := by
        intro  st
        rw [fX8_either4_j39]
        refine z_iconst X (v := (1 : Int32)) dX8_either4_39 (by decide) ?_
        refine z_goto X (tgt := 44) dX8_either4_40 (by decide) ?_
        exact z_sub [0] (J44 _ _) rfl
      intro y1 st
      rw [fX8_either4_L5]
      refine z_aload_n X (q := 0) dX8_either4_5 rfl rfl ?_
      refine z_bipush X (v := (111 : Int32)) dX8_either4_6 (by decide) ?_
      refine z_bipush X (v := (114 : Int32)) dX8_either4_8 (by decide) ?_
      refine z_iconst X (v := (0 : Int32)) dX8_either4_10 (by decide) ?_
      refine z_iconst X (v := (0 : Int32)) dX8_either4_11 (by decide) ?_
      refine z_iconst X (v := (0 : Int32)) dX8_either4_12 (by decide) ?_
      refine z_iconst X (v := (0 : Int32)) dX8_either4_13 (by decide) ?_
      refine z_iconst X (v := (0 : Int32)) dX8_either4_14 (by decide) ?_
      refine z_iconst X (v := (0 : Int32)) dX8_either4_15 (by decide) ?_
      refine z_callV X hK (As := [vI (111 : Int32), vI (114 : Int32), vI (0 : Int32), vI (0 : Int32), vI (0 : Int32), vI (0 : Int32), vI (0 : Int32), vI (0 : Int32)]) (ci := 8) rfl (by decide) (fun o => (kX8_isWord l Z  b x o _ _ _ _ _ _ _ _ _)) hk_X8_175 ⟨rfl, rfl⟩ hd_X8_isWord ⟨Nat.le_of_ble_eq_true rfl, Nat.le_of_ble_eq_true rfl⟩ ⟨Nat.le_of_ble_eq_true rfl, Nat.le_of_ble_eq_true rfl⟩ rfl rfl (Nat.le_of_ble_eq_true rfl) dX8_either4_16 (fun _ q1 _ => ?_)
      refine z_if_eq X (tgt := 48) dX8_either4_19 (by decide) (fun _ => ?_) (fun _ => ?_)
      · refine z_iload_n X (q := 1) dX8_either4_48 rfl rfl ?_
        subst hQ; exact z_iret X hlocks hr dX8_either4_49
      · refine z_aload_n X (q := 0) dX8_either4_22 rfl rfl ?_
        refine z_callV X hK (As := []) (ci := 8) rfl (by decide) (fun o => (kX8_next l Z  b x o _)) hk_X8_172 ⟨rfl, rfl⟩ hd_X8_next ⟨Nat.le_of_ble_eq_true rfl, Nat.le_of_ble_eq_true rfl⟩ ⟨Nat.le_of_ble_eq_true rfl, Nat.le_of_ble_eq_true rfl⟩ rfl rfl (Nat.le_of_ble_eq_true rfl) dX8_either4_23 (fun _ q2 _ => ?_)
        refine z_aload_n X (q := 0) dX8_either4_26 rfl rfl ?_
        refine z_callV X hK (As := []) (ci := 8) rfl (by decide) (fun o => (kX8_both4 l Z  b x o _)) hk_X8_242 ⟨rfl, rfl⟩ hd_X8_both4 ⟨Nat.le_of_ble_eq_true rfl, Nat.le_of_ble_eq_true rfl⟩ ⟨Nat.le_of_ble_eq_true rfl, Nat.le_of_ble_eq_true rfl⟩ rfl rfl (Nat.le_of_ble_eq_true rfl) dX8_either4_27 (fun _ q3 _ => ?_)
        refine z_name (fun v4 => ?_)
        refine z_istore_n X dX8_either4_30 rfl (Nat.le_of_ble_eq_true rfl) rfl ?_
        refine z_iload_n X (q := 2) dX8_either4_31 rfl rfl ?_
        refine z_if_ne X (tgt := 39) dX8_either4_32 (by decide) (fun _ => ?_) (fun _ => ?_)
        · exact z_sub [1] (J39  _) rfl
        · refine z_iload_n X (q := 0) dX8_either4_35 rfl rfl ?_
          refine z_if_eq X (tgt := 43) dX8_either4_36 (by decide) (fun _ => ?_) (fun _ => ?_)
          · refine z_iconst X (v := (0 : Int32)) dX8_either4_43 (by decide) ?_
            exact z_sub [1] (J44 _ _) rfl
          · exact z_sub [1] (J39  _) rfl
  rw [fX8_either4]
  refine z_aload_n X (q := 0) dX8_either4_0 rfl rfl ?_
  refine z_callV X hK (As := []) (ci := 8) rfl (by decide) (fun o => (kX8_both4 l Z  b x o _)) hk_X8_242 ⟨rfl, rfl⟩ hd_X8_both4 ⟨Nat.le_of_ble_eq_true rfl, Nat.le_of_ble_eq_true rfl⟩ ⟨Nat.le_of_ble_eq_true rfl, Nat.le_of_ble_eq_true rfl⟩ rfl rfl (Nat.le_of_ble_eq_true rfl) dX8_either4_1 (fun _ q8 _ => ?_)
  refine z_name (fun v9 => ?_)
  refine z_istore_n X dX8_either4_4 rfl (Nat.le_of_ble_eq_true rfl) rfl ?_
  exact z_sub [1, 0] (J5 _ _ _) rfl
theorem zw_619 : Cond.methodLink RX8 245 yX8_either4 ∈ wsL_law := zr_16 _ (by decide +kernel)
theorem zw_620 : Cond.instanceMethod yX8_either4 ∈ wsL_law := zr_16 _ (by decide +kernel)
theorem zw_621 : Cond.selects RX8 yX8_either4 yX8_either4 ∈ wsL_law := zr_16 _ (by decide +kernel)
theorem zw_622 : Cond.code yX8_either4 cX8_either4 3 (some .int) ∈ wsL_law := zr_16 _ (by decide +kernel)
theorem hk_X8_245 : ∀ w ∈ ([Cond.methodLink RX8 245 yX8_either4, Cond.instanceMethod yX8_either4, Cond.selects RX8 yX8_either4 yX8_either4, Cond.initialized RX8, Cond.code yX8_either4 cX8_either4 3 (some .int)] : List Cond), w ∈ wsL_law := List.forall_mem_cons.mpr ⟨zw_619, List.forall_mem_cons.mpr ⟨zw_620, List.forall_mem_cons.mpr ⟨zw_621, List.forall_mem_cons.mpr ⟨zw_525, List.forall_mem_cons.mpr ⟨zw_622, fun _ h => absurd h List.not_mem_nil⟩⟩⟩⟩⟩
theorem hd_X8_either4 : yX8_either4.cls = RX8 ∧ yX8_either4.cls ≠ "java/lang/invoke/MethodHandle" ∧ yX8_either4.cls ≠ "java/lang/invoke/VarHandle" ∧ (parseMethodDescriptor yX8_either4.desc).map (fun d => d.parameters.length) = some 0 := by decide +kernel
abbrev rmX8_atom3 : Room := { frames := 17, cells := 0, slots := 0, locals := 395 }
def fX8_atom3_j71 (this : Nat) (y1 : Int32) (st : zS) : Option (Int32 × zS) :=
  (zok spM st (some this) 8).bind fun o1 => (zok spM st (some this) 8).bind fun o2 => zlet (zp st o2 25 ((st.2.1 o1 25) - (1 : Int32))) fun st3 => (zok spM st3 (some this) 8).bind fun o4 => if (st3.2.1 o4 26) = 0 then ((zok spM st3 (some this) 8).bind fun o6 => (fX8_next o6 st3).bind fun q5 => some (y1, q5.2)) else (some (y1, st3))
def fX8_atom3_j157 (this : Nat) (y1 : Int32) (st : zS) : Option (Int32 × zS) :=
  (zok spM st (some this) 8).bind fun o8 => (fX8_fail o8 st).bind fun q7 => some (y1, q7.2)
def fX8_atom3_j123 (this : Nat) (y1 : Int32) (st : zS) : Option (Int32 × zS) :=
  (zok spM st (some this) 8).bind fun o9 => if (st.2.1 o9 26) = 0 then ((zok spM st (some this) 8).bind fun o10 => if (st.2.1 o10 22) = (1 : Int32) then ((zok spM st (some this) 8).bind fun o16 => (fX8_name o16 st).bind fun q11 => zlet (q11.1) fun v12 => (zok spM q11.2 (some this) 8).bind fun o13 => if (q11.2.2.1 o13 26) = 0 then ((zok spM q11.2 (some this) 8).bind fun o15 => (fX8_next o15 q11.2).bind fun q14 => some (v12, q14.2)) else (some (v12, q11.2))) else (fX8_atom3_j157 this y1 st)) else (fX8_atom3_j157 this y1 st)
def fX8_atom3 (this : Nat) (st : zS) : Option (Int32 × zS) :=
  (zok spM st (some this) 8).bind fun o43 => (fX8_isSign o43 (45 : Int32) st).bind fun q17 => if q17.1 = 0 then ((zok spM q17.2 (some this) 8).bind fun o34 => (fX8_isSign o34 (40 : Int32) q17.2).bind fun q18 => if q18.1 = 0 then ((zok spM q18.2 (some this) 8).bind fun o19 => if (q18.2.2.1 o19 26) = 0 then ((zok spM q18.2 (some this) 8).bind fun o20 => if (q18.2.2.1 o20 22) = (2 : Int32) then ((zok spM q18.2 (some this) 8).bind fun o21 => zlet (((q18.2.2.2.1 o21).toInt32)) fun v22 => (zok spM q18.2 (some this) 8).bind fun o24 => (fX8_next o24 q18.2).bind fun q23 => some (v22, q23.2)) else (fX8_atom3_j123 this (0 : Int32) q18.2)) else (fX8_atom3_j123 this (0 : Int32) q18.2)) else ((zok spM q18.2 (some this) 8).bind fun o33 => (fX8_opens o33 q18.2).bind fun q25 => if q25.1 = 0 then (some ((0 : Int32), q25.2)) else ((zok spM q25.2 (some this) 8).bind fun o32 => (fX8_either4 o32 q25.2).bind fun q26 => zlet (q26.1) fun v27 => (zok spM q26.2 (some this) 8).bind fun o31 => (fX8_isSign o31 (41 : Int32) q26.2).bind fun q28 => if q28.1 = 0 then ((zok spM q28.2 (some this) 8).bind fun o30 => (fX8_fail o30 q28.2).bind fun q29 => fX8_atom3_j71 this v27 q29.2) else (fX8_atom3_j71 this v27 q28.2)))) else ((zok spM q17.2 (some this) 8).bind fun o42 => (fX8_opens o42 q17.2).bind fun q35 => if q35.1 = 0 then (some ((0 : Int32), q35.2)) else ((zok spM q35.2 (some this) 8).bind fun o41 => (fX8_atom4 o41 q35.2).bind fun q36 => zlet ((-q36.1)) fun v37 => (zok spM q36.2 (some this) 8).bind fun o38 => (zok spM q36.2 (some this) 8).bind fun o39 => zlet (zp q36.2 o39 25 ((q36.2.2.1 o38 25) - (1 : Int32))) fun st40 => some (v37, st40)))
set_option maxRecDepth 100000 in
set_option maxHeartbeats 4000000 in
theorem kX8_atom3 (l : Launch) (Z : zZ) (b : Nat) (x : Option Nat) (this : Nat) (st : zS) : zC l Z spM b x yX8_atom3 (.code yX8_atom3 cX8_atom3 2 (some .int)) (rmX8_atom3) rI [vP (some this)] st (fX8_atom3 this st) := by
  refine z_start (own := RX8) rfl (by decide +kernel) (Nat.le_of_ble_eq_true rfl) rfl (fun p e s m args below meth c res Q A X hK hr hlocks hQ => ?_)
  have J71 : ∀ (y1 : Int32) (st : zS), zs p l e (rmX8_atom3) s m args below meth c Q Z spM b x A 2 0 0 res (fX8_atom3_j71 this y1 st) 71 [(0, vP (some this)), (1, vI y1)] [] st := by
    intro y1 st
    rw [fX8_atom3_j71]
    refine z_aload_n X (q := 0) dX8_atom3_71 rfl rfl ?_
    refine z_dup X dX8_atom3_72 rfl ?_
    refine z_geti X hK (N := 46) (ci := 8) (k := 25) rfl (by decide) inlX8 (by decide) hf_X8_166 rfl spM_X8 rfl dX8_atom3_73 (fun o1 _ => ?_)
    refine z_iconst X (v := (1 : Int32)) dX8_atom3_76 (by decide) ?_
    refine z_isub X dX8_atom3_77 ?_
    refine z_puti X hK (N := 46) (ci := 8) (k := 25) rfl (by decide) inlX8 tyX8 tyX8_ok nmX8 (by decide) hf_X8_166 rfl rfl spM_X8 rfl (by decide +kernel) dX8_atom3_78 (fun o2 st3 _ => ?_)
    refine z_aload_n X (q := 0) dX8_atom3_81 rfl rfl ?_
    refine z_geti X hK (N := 46) (ci := 8) (k := 26) rfl (by decide) inlX8 (by decide) hf_X8_155 rfl spM_X8 rfl dX8_atom3_82 (fun o4 _ => ?_)
    refine z_if_ne X (tgt := 161) dX8_atom3_85 (by decide) (fun _ => ?_) (fun _ => ?_)
    · refine z_iload_n X (q := 1) dX8_atom3_161 rfl rfl ?_
      subst hQ; exact z_iret X hlocks hr dX8_atom3_162
    · refine z_aload_n X (q := 0) dX8_atom3_88 rfl rfl ?_
      refine z_callV X hK (As := []) (ci := 8) rfl (by decide) (fun o => (kX8_next l Z  b x o _)) hk_X8_172 ⟨rfl, rfl⟩ hd_X8_next ⟨Nat.le_of_ble_eq_true rfl, Nat.le_of_ble_eq_true rfl⟩ ⟨Nat.le_of_ble_eq_true rfl, Nat.le_of_ble_eq_true rfl⟩ rfl rfl (Nat.le_of_ble_eq_true rfl) dX8_atom3_89 (fun _ q5 _ => ?_)
      refine z_goto X (tgt := 161) dX8_atom3_92 (by decide) ?_
      refine z_iload_n X (q := 1) dX8_atom3_161 rfl rfl ?_
      subst hQ; exact z_iret X hlocks hr dX8_atom3_162
  have J157 : ∀ (y1 : Int32) (st : zS), zs p l e (rmX8_atom3) s m args below meth c Q Z spM b x A 2 0 0 res (fX8_atom3_j157 this y1 st) 157 [(0, vP (some this)), (1, vI y1)] [] st := by
    intro y1 st
    rw [fX8_atom3_j157]
    refine z_aload_n X (q := 0) dX8_atom3_157 rfl rfl ?_
    refine z_callV X hK (As := []) (ci := 8) rfl (by decide) (fun o => (kX8_fail l Z  b x o _)) hk_X8_169 ⟨rfl, rfl⟩ hd_X8_fail ⟨Nat.le_of_ble_eq_true rfl, Nat.le_of_ble_eq_true rfl⟩ ⟨Nat.le_of_ble_eq_true rfl, Nat.le_of_ble_eq_true rfl⟩ rfl rfl (Nat.le_of_ble_eq_true rfl) dX8_atom3_158 (fun _ q7 _ => ?_)
    refine z_iload_n X (q := 1) dX8_atom3_161 rfl rfl ?_
    subst hQ; exact z_iret X hlocks hr dX8_atom3_162
  have J123 : ∀ (y1 : Int32) (st : zS), zs p l e (rmX8_atom3) s m args below meth c Q Z spM b x A 2 0 0 res (fX8_atom3_j123 this y1 st) 123 [(0, vP (some this)), (1, vI y1)] [] st := by
    intro y1 st
    rw [fX8_atom3_j123]
    refine z_aload_n X (q := 0) dX8_atom3_123 rfl rfl ?_
    refine z_geti X hK (N := 46) (ci := 8) (k := 26) rfl (by decide) inlX8 (by decide) hf_X8_155 rfl spM_X8 rfl dX8_atom3_124 (fun o9 _ => ?_)
    refine z_if_ne X (tgt := 157) dX8_atom3_127 (by decide) (fun _ => ?_) (fun _ => ?_)
    · exact z_sub [0, 1] (J157 _ _) rfl
    · refine z_aload_n X (q := 0) dX8_atom3_130 rfl rfl ?_
      refine z_geti X hK (N := 46) (ci := 8) (k := 22) rfl (by decide) inlX8 (by decide) hf_X8_138 rfl spM_X8 rfl dX8_atom3_131 (fun o10 _ => ?_)
      refine z_iconst X (v := (1 : Int32)) dX8_atom3_134 (by decide) ?_
      refine z_icmp_ne X (tgt := 157) dX8_atom3_135 (by decide) (fun _ => ?_) (fun _ => ?_)
      · exact z_sub [0, 1] (J157 _ _) rfl
      · refine z_aload_n X (q := 0) dX8_atom3_138 rfl rfl ?_
        refine z_callV X hK (As := []) (ci := 8) rfl (by decide) (fun o => (kX8_name l Z  b x o _)) hk_X8_204 ⟨rfl, rfl⟩ hd_X8_name ⟨Nat.le_of_ble_eq_true rfl, Nat.le_of_ble_eq_true rfl⟩ ⟨Nat.le_of_ble_eq_true rfl, Nat.le_of_ble_eq_true rfl⟩ rfl rfl (Nat.le_of_ble_eq_true rfl) dX8_atom3_139 (fun _ q11 _ => ?_)
        refine z_name (fun v12 => ?_)
        refine z_istore_n X dX8_atom3_142 rfl (Nat.le_of_ble_eq_true rfl) rfl ?_
        refine z_aload_n X (q := 1) dX8_atom3_143 rfl rfl ?_
        refine z_geti X hK (N := 46) (ci := 8) (k := 26) rfl (by decide) inlX8 (by decide) hf_X8_155 rfl spM_X8 rfl dX8_atom3_144 (fun o13 _ => ?_)
        refine z_if_ne X (tgt := 161) dX8_atom3_147 (by decide) (fun _ => ?_) (fun _ => ?_)
        · refine z_iload_n X (q := 0) dX8_atom3_161 rfl rfl ?_
          subst hQ; exact z_iret X hlocks hr dX8_atom3_162
        · refine z_aload_n X (q := 1) dX8_atom3_150 rfl rfl ?_
          refine z_callV X hK (As := []) (ci := 8) rfl (by decide) (fun o => (kX8_next l Z  b x o _)) hk_X8_172 ⟨rfl, rfl⟩ hd_X8_next ⟨Nat.le_of_ble_eq_true rfl, Nat.le_of_ble_eq_true rfl⟩ ⟨Nat.le_of_ble_eq_true rfl, Nat.le_of_ble_eq_true rfl⟩ rfl rfl (Nat.le_of_ble_eq_true rfl) dX8_atom3_151 (fun _ q14 _ => ?_)
          refine z_goto X (tgt := 161) dX8_atom3_154 (by decide) ?_
          refine z_iload_n X (q := 0) dX8_atom3_161 rfl rfl ?_
          subst hQ; exact z_iret X hlocks hr dX8_atom3_162
  rw [fX8_atom3]
  refine z_iconst X (v := (0 : Int32)) dX8_atom3_0 (by decide) ?_
  refine z_istore_n X dX8_atom3_1 rfl (Nat.le_of_ble_eq_true rfl) rfl ?_
  refine z_aload_n X (q := 1) dX8_atom3_2 rfl rfl ?_
  refine z_bipush X (v := (45 : Int32)) dX8_atom3_3 (by decide) ?_
  refine z_callV X hK (As := [vI (45 : Int32)]) (ci := 8) rfl (by decide) (fun o => (kX8_isSign l Z  b x o _ _)) hk_X8_197 ⟨rfl, rfl⟩ hd_X8_isSign ⟨Nat.le_of_ble_eq_true rfl, Nat.le_of_ble_eq_true rfl⟩ ⟨Nat.le_of_ble_eq_true rfl, Nat.le_of_ble_eq_true rfl⟩ rfl rfl (Nat.le_of_ble_eq_true rfl) dX8_atom3_5 (fun _ q17 _ => ?_)
  refine z_if_eq X (tgt := 37) dX8_atom3_8 (by decide) (fun _ => ?_) (fun _ => ?_)
  · refine z_aload_n X (q := 1) dX8_atom3_37 rfl rfl ?_
    refine z_bipush X (v := (40 : Int32)) dX8_atom3_38 (by decide) ?_
    refine z_callV X hK (As := [vI (40 : Int32)]) (ci := 8) rfl (by decide) (fun o => (kX8_isSign l Z  b x o _ _)) hk_X8_197 ⟨rfl, rfl⟩ hd_X8_isSign ⟨Nat.le_of_ble_eq_true rfl, Nat.le_of_ble_eq_true rfl⟩ ⟨Nat.le_of_ble_eq_true rfl, Nat.le_of_ble_eq_true rfl⟩ rfl rfl (Nat.le_of_ble_eq_true rfl) dX8_atom3_40 (fun _ q18 _ => ?_)
    refine z_if_eq X (tgt := 95) dX8_atom3_43 (by decide) (fun _ => ?_) (fun _ => ?_)
    · refine z_aload_n X (q := 1) dX8_atom3_95 rfl rfl ?_
      refine z_geti X hK (N := 46) (ci := 8) (k := 26) rfl (by decide) inlX8 (by decide) hf_X8_155 rfl spM_X8 rfl dX8_atom3_96 (fun o19 _ => ?_)
      refine z_if_ne X (tgt := 123) dX8_atom3_99 (by decide) (fun _ => ?_) (fun _ => ?_)
      · exact z_sub [1, 0] (J123 _ _) rfl
      · refine z_aload_n X (q := 1) dX8_atom3_102 rfl rfl ?_
        refine z_geti X hK (N := 46) (ci := 8) (k := 22) rfl (by decide) inlX8 (by decide) hf_X8_138 rfl spM_X8 rfl dX8_atom3_103 (fun o20 _ => ?_)
        refine z_iconst X (v := (2 : Int32)) dX8_atom3_106 (by decide) ?_
        refine z_icmp_ne X (tgt := 123) dX8_atom3_107 (by decide) (fun _ => ?_) (fun _ => ?_)
        · exact z_sub [1, 0] (J123 _ _) rfl
        · refine z_aload_n X (q := 1) dX8_atom3_110 rfl rfl ?_
          refine z_getl X hK (N := 46) (ci := 8) (k := 24) rfl (by decide) inlX8 (by decide) hf_X8_149 rfl spM_X8 rfl dX8_atom3_111 (fun o21 _ => ?_)
          refine z_l2i X dX8_atom3_114 ?_
          refine z_name (fun v22 => ?_)
          refine z_istore_n X dX8_atom3_115 rfl (Nat.le_of_ble_eq_true rfl) rfl ?_
          refine z_aload_n X (q := 1) dX8_atom3_116 rfl rfl ?_
          refine z_callV X hK (As := []) (ci := 8) rfl (by decide) (fun o => (kX8_next l Z  b x o _)) hk_X8_172 ⟨rfl, rfl⟩ hd_X8_next ⟨Nat.le_of_ble_eq_true rfl, Nat.le_of_ble_eq_true rfl⟩ ⟨Nat.le_of_ble_eq_true rfl, Nat.le_of_ble_eq_true rfl⟩ rfl rfl (Nat.le_of_ble_eq_true rfl) dX8_atom3_117 (fun _ q23 _ => ?_)
          refine z_goto X (tgt := 161) dX8_atom3_120 (by decide) ?_
          refine z_iload_n X (q := 0) dX8_atom3_161 rfl rfl ?_
          subst hQ; exact z_iret X hlocks hr dX8_atom3_162
    · refine z_aload_n X (q := 1) dX8_atom3_46 rfl rfl ?_
      refine z_callV X hK (As := []) (ci := 8) rfl (by decide) (fun o => (kX8_opens l Z  b x o _)) hk_X8_200 ⟨rfl, rfl⟩ hd_X8_opens ⟨Nat.le_of_ble_eq_true rfl, Nat.le_of_ble_eq_true rfl⟩ ⟨Nat.le_of_ble_eq_true rfl, Nat.le_of_ble_eq_true rfl⟩ rfl rfl (Nat.le_of_ble_eq_true rfl) dX8_atom3_47 (fun _ q25 _ => ?_)
      refine z_if_eq X (tgt := 161) dX8_atom3_50 (by decide) (fun _ => ?_) (fun _ => ?_)
      · refine z_iload_n X (q := 0) dX8_atom3_161 rfl rfl ?_
        subst hQ; exact z_iret X hlocks hr dX8_atom3_162
      · refine z_aload_n X (q := 1) dX8_atom3_53 rfl rfl ?_
        refine z_callV X hK (As := []) (ci := 8) rfl (by decide) (fun o => (kX8_either4 l Z  b x o _)) hk_X8_245 ⟨rfl, rfl⟩ hd_X8_either4 ⟨Nat.le_of_ble_eq_true rfl, Nat.le_of_ble_eq_true rfl⟩ ⟨Nat.le_of_ble_eq_true rfl, Nat.le_of_ble_eq_true rfl⟩ rfl rfl (Nat.le_of_ble_eq_true rfl) dX8_atom3_54 (fun _ q26 _ => ?_)
        refine z_name (fun v27 => ?_)
        refine z_istore_n X dX8_atom3_57 rfl (Nat.le_of_ble_eq_true rfl) rfl ?_
        refine z_aload_n X (q := 1) dX8_atom3_58 rfl rfl ?_
        refine z_bipush X (v := (41 : Int32)) dX8_atom3_59 (by decide) ?_
        refine z_callV X hK (As := [vI (41 : Int32)]) (ci := 8) rfl (by decide) (fun o => (kX8_isSign l Z  b x o _ _)) hk_X8_197 ⟨rfl, rfl⟩ hd_X8_isSign ⟨Nat.le_of_ble_eq_true rfl, Nat.le_of_ble_eq_true rfl⟩ ⟨Nat.le_of_ble_eq_true rfl, Nat.le_of_ble_eq_true rfl⟩ rfl rfl (Nat.le_of_ble_eq_true rfl) dX8_atom3_61 (fun _ q28 _ => ?_)
        refine z_if_ne X (tgt := 71) dX8_atom3_64 (by decide) (fun _ => ?_) (fun _ => ?_)
        · exact z_sub [1, 0] (J71 _ _) rfl
        · refine z_aload_n X (q := 1) dX8_atom3_67 rfl rfl ?_
          refine z_callV X hK (As := []) (ci := 8) rfl (by decide) (fun o => (kX8_fail l Z  b x o _)) hk_X8_169 ⟨rfl, rfl⟩ hd_X8_fail ⟨Nat.le_of_ble_eq_true rfl, Nat.le_of_ble_eq_true rfl⟩ ⟨Nat.le_of_ble_eq_true rfl, Nat.le_of_ble_eq_true rfl⟩ rfl rfl (Nat.le_of_ble_eq_true rfl) dX8_atom3_68 (fun _ q29 _ => ?_)
          exact z_sub [1, 0] (J71 _ _) rfl
  · refine z_aload_n X (q := 1) dX8_atom3_11 rfl rfl ?_
    refine z_callV X hK (As := []) (ci := 8) rfl (by decide) (fun o => (kX8_opens l Z  b x o _)) hk_X8_200 ⟨rfl, rfl⟩ hd_X8_opens ⟨Nat.le_of_ble_eq_true rfl, Nat.le_of_ble_eq_true rfl⟩ ⟨Nat.le_of_ble_eq_true rfl, Nat.le_of_ble_eq_true rfl⟩ rfl rfl (Nat.le_of_ble_eq_true rfl) dX8_atom3_12 (fun _ q35 _ => ?_)
    refine z_if_eq X (tgt := 161) dX8_atom3_15 (by decide) (fun _ => ?_) (fun _ => ?_)
    · refine z_iload_n X (q := 0) dX8_atom3_161 rfl rfl ?_
      subst hQ; exact z_iret X hlocks hr dX8_atom3_162
    · refine z_aload_n X (q := 1) dX8_atom3_18 rfl rfl ?_
      refine z_callV X hK (As := []) (ci := 8) rfl (by decide) (fun o => (kX8_atom4 l Z  b x o _)) hk_X8_230 ⟨rfl, rfl⟩ hd_X8_atom4 ⟨Nat.le_of_ble_eq_true rfl, Nat.le_of_ble_eq_true rfl⟩ ⟨Nat.le_of_ble_eq_true rfl, Nat.le_of_ble_eq_true rfl⟩ rfl rfl (Nat.le_of_ble_eq_true rfl) dX8_atom3_19 (fun _ q36 _ => ?_)
      refine z_ineg X dX8_atom3_22 ?_
      refine z_name (fun v37 => ?_)
      refine z_istore_n X dX8_atom3_23 rfl (Nat.le_of_ble_eq_true rfl) rfl ?_
      refine z_aload_n X (q := 1) dX8_atom3_24 rfl rfl ?_
      refine z_dup X dX8_atom3_25 rfl ?_
      refine z_geti X hK (N := 46) (ci := 8) (k := 25) rfl (by decide) inlX8 (by decide) hf_X8_166 rfl spM_X8 rfl dX8_atom3_26 (fun o38 _ => ?_)
      refine z_iconst X (v := (1 : Int32)) dX8_atom3_29 (by decide) ?_
      refine z_isub X dX8_atom3_30 ?_
      refine z_puti X hK (N := 46) (ci := 8) (k := 25) rfl (by decide) inlX8 tyX8 tyX8_ok nmX8 (by decide) hf_X8_166 rfl rfl spM_X8 rfl (by decide +kernel) dX8_atom3_31 (fun o39 st40 _ => ?_)
      refine z_goto X (tgt := 161) dX8_atom3_34 (by decide) ?_
      refine z_iload_n X (q := 0) dX8_atom3_161 rfl rfl ?_
      subst hQ; exact z_iret X hlocks hr dX8_atom3_162
theorem zw_623 : Cond.methodLink RX8 248 yX8_atom3 ∈ wsL_law := zr_16 _ (by decide +kernel)
theorem zw_624 : Cond.instanceMethod yX8_atom3 ∈ wsL_law := zr_16 _ (by decide +kernel)
theorem zw_625 : Cond.selects RX8 yX8_atom3 yX8_atom3 ∈ wsL_law := zr_16 _ (by decide +kernel)
theorem zw_626 : Cond.code yX8_atom3 cX8_atom3 2 (some .int) ∈ wsL_law := zr_16 _ (by decide +kernel)
theorem hk_X8_248 : ∀ w ∈ ([Cond.methodLink RX8 248 yX8_atom3, Cond.instanceMethod yX8_atom3, Cond.selects RX8 yX8_atom3 yX8_atom3, Cond.initialized RX8, Cond.code yX8_atom3 cX8_atom3 2 (some .int)] : List Cond), w ∈ wsL_law := List.forall_mem_cons.mpr ⟨zw_623, List.forall_mem_cons.mpr ⟨zw_624, List.forall_mem_cons.mpr ⟨zw_625, List.forall_mem_cons.mpr ⟨zw_525, List.forall_mem_cons.mpr ⟨zw_626, fun _ h => absurd h List.not_mem_nil⟩⟩⟩⟩⟩
theorem hd_X8_atom3 : yX8_atom3.cls = RX8 ∧ yX8_atom3.cls ≠ "java/lang/invoke/MethodHandle" ∧ yX8_atom3.cls ≠ "java/lang/invoke/VarHandle" ∧ (parseMethodDescriptor yX8_atom3.desc).map (fun d => d.parameters.length) = some 0 := by decide +kernel
abbrev rmX8_term3 : Room := { frames := 18, cells := 0, slots := 0, locals := 416 }
def fX8_term3_L5 (this : Nat) : Nat → Int32 → zS → Option (Int32 × zS)
  | 0, _, _ => none
  | n + 1, y1, st => (zok spM st (some this) 8).bind fun o7 => (fX8_isSign o7 (42 : Int32) st).bind fun q1 => if q1.1 = 0 then (some (y1, q1.2)) else ((zok spM q1.2 (some this) 8).bind fun o6 => (fX8_next o6 q1.2).bind fun q2 => (zok spM q2.2 (some this) 8).bind fun o5 => (fX8_atom3 o5 q2.2).bind fun q3 => zlet ((y1 * q3.1)) fun v4 => (fX8_term3_L5 this n) v4 q3.2)
def fX8_term3 (this : Nat) (st : zS) : Option (Int32 × zS) :=
  (zok spM st (some this) 8).bind fun o10 => (fX8_atom3 o10 st).bind fun q8 => zlet (q8.1) fun v9 => fX8_term3_L5 this zF v9 q8.2
set_option maxRecDepth 100000 in
set_option maxHeartbeats 4000000 in
theorem kX8_term3 (l : Launch) (Z : zZ) (b : Nat) (x : Option Nat) (this : Nat) (st : zS) : zC l Z spM b x yX8_term3 (.code yX8_term3 cX8_term3 2 (some .int)) (rmX8_term3) rI [vP (some this)] st (fX8_term3 this st) := by
  refine z_start (own := RX8) rfl (by decide +kernel) (Nat.le_of_ble_eq_true rfl) rfl (fun p e s m args below meth c res Q A X hK hr hlocks hQ => ?_)
  have J5 : ∀ (n5 : Nat) (y1 : Int32) (st : zS), zs p l e (rmX8_term3) s m args below meth c Q Z spM b x A 2 0 0 res (fX8_term3_L5 this n5 y1 st) 5 [(0, vP (some this)), (1, vI y1)] [] st := by
    intro n5
    induction n5 with
    | zero => intros; exact z_none
    | succ n5 ih5 =>
      intro y1 st
      rw [fX8_term3_L5]
      refine z_aload_n X (q := 0) dX8_term3_5 rfl rfl ?_
      refine z_bipush X (v := (42 : Int32)) dX8_term3_6 (by decide) ?_
      refine z_callV X hK (As := [vI (42 : Int32)]) (ci := 8) rfl (by decide) (fun o => (kX8_isSign l Z  b x o _ _)) hk_X8_197 ⟨rfl, rfl⟩ hd_X8_isSign ⟨Nat.le_of_ble_eq_true rfl, Nat.le_of_ble_eq_true rfl⟩ ⟨Nat.le_of_ble_eq_true rfl, Nat.le_of_ble_eq_true rfl⟩ rfl rfl (Nat.le_of_ble_eq_true rfl) dX8_term3_8 (fun _ q1 _ => ?_)
      refine z_if_eq X (tgt := 28) dX8_term3_11 (by decide) (fun _ => ?_) (fun _ => ?_)
      · refine z_iload_n X (q := 1) dX8_term3_28 rfl rfl ?_
        subst hQ; exact z_iret X hlocks hr dX8_term3_29
      · refine z_aload_n X (q := 0) dX8_term3_14 rfl rfl ?_
        refine z_callV X hK (As := []) (ci := 8) rfl (by decide) (fun o => (kX8_next l Z  b x o _)) hk_X8_172 ⟨rfl, rfl⟩ hd_X8_next ⟨Nat.le_of_ble_eq_true rfl, Nat.le_of_ble_eq_true rfl⟩ ⟨Nat.le_of_ble_eq_true rfl, Nat.le_of_ble_eq_true rfl⟩ rfl rfl (Nat.le_of_ble_eq_true rfl) dX8_term3_15 (fun _ q2 _ => ?_)
        refine z_iload_n X (q := 1) dX8_term3_18 rfl rfl ?_
        refine z_aload_n X (q := 0) dX8_term3_19 rfl rfl ?_
        refine z_callV X hK (As := []) (ci := 8) rfl (by decide) (fun o => (kX8_atom3 l Z  b x o _)) hk_X8_248 ⟨rfl, rfl⟩ hd_X8_atom3 ⟨Nat.le_of_ble_eq_true rfl, Nat.le_of_ble_eq_true rfl⟩ ⟨Nat.le_of_ble_eq_true rfl, Nat.le_of_ble_eq_true rfl⟩ rfl rfl (Nat.le_of_ble_eq_true rfl) dX8_term3_20 (fun _ q3 _ => ?_)
        refine z_imul X dX8_term3_23 ?_
        refine z_name (fun v4 => ?_)
        refine z_istore_n X dX8_term3_24 rfl (Nat.le_of_ble_eq_true rfl) rfl ?_
        refine z_goto X (tgt := 5) dX8_term3_25 (by decide) ?_
        exact z_sub [1, 0] (ih5 _ _) rfl
  rw [fX8_term3]
  refine z_aload_n X (q := 0) dX8_term3_0 rfl rfl ?_
  refine z_callV X hK (As := []) (ci := 8) rfl (by decide) (fun o => (kX8_atom3 l Z  b x o _)) hk_X8_248 ⟨rfl, rfl⟩ hd_X8_atom3 ⟨Nat.le_of_ble_eq_true rfl, Nat.le_of_ble_eq_true rfl⟩ ⟨Nat.le_of_ble_eq_true rfl, Nat.le_of_ble_eq_true rfl⟩ rfl rfl (Nat.le_of_ble_eq_true rfl) dX8_term3_1 (fun _ q8 _ => ?_)
  refine z_name (fun v9 => ?_)
  refine z_istore_n X dX8_term3_4 rfl (Nat.le_of_ble_eq_true rfl) rfl ?_
  exact z_sub [1, 0] (J5 _ _ _) rfl
theorem zw_627 : Cond.methodLink RX8 251 yX8_term3 ∈ wsL_law := zr_16 _ (by decide +kernel)
theorem zw_628 : Cond.instanceMethod yX8_term3 ∈ wsL_law := zr_16 _ (by decide +kernel)
theorem zw_629 : Cond.selects RX8 yX8_term3 yX8_term3 ∈ wsL_law := zr_16 _ (by decide +kernel)
theorem zw_630 : Cond.code yX8_term3 cX8_term3 2 (some .int) ∈ wsL_law := zr_16 _ (by decide +kernel)
theorem hk_X8_251 : ∀ w ∈ ([Cond.methodLink RX8 251 yX8_term3, Cond.instanceMethod yX8_term3, Cond.selects RX8 yX8_term3 yX8_term3, Cond.initialized RX8, Cond.code yX8_term3 cX8_term3 2 (some .int)] : List Cond), w ∈ wsL_law := List.forall_mem_cons.mpr ⟨zw_627, List.forall_mem_cons.mpr ⟨zw_628, List.forall_mem_cons.mpr ⟨zw_629, List.forall_mem_cons.mpr ⟨zw_525, List.forall_mem_cons.mpr ⟨zw_630, fun _ h => absurd h List.not_mem_nil⟩⟩⟩⟩⟩
theorem hd_X8_term3 : yX8_term3.cls = RX8 ∧ yX8_term3.cls ≠ "java/lang/invoke/MethodHandle" ∧ yX8_term3.cls ≠ "java/lang/invoke/VarHandle" ∧ (parseMethodDescriptor yX8_term3.desc).map (fun d => d.parameters.length) = some 0 := by decide +kernel
abbrev rmX8_added3 : Room := { frames := 19, cells := 0, slots := 0, locals := 437 }
def fX8_added3_j62 (this : Nat) (k5 : Int32 → zS → Option (Int32 × zS)) (s0 : Int32) (st : zS) : Option (Int32 × zS) :=
  k5 s0 st
def fX8_added3_j39 (this : Nat) (k5 : Int32 → zS → Option (Int32 × zS)) (y1 : Int32) (s0 : Int32) (st : zS) : Option (Int32 × zS) :=
  (zok spM st (some this) 8).bind fun o5 => (fX8_next o5 st).bind fun q1 => (zok spM q1.2 (some this) 8).bind fun o4 => (fX8_term3 o4 q1.2).bind fun q2 => zlet (q2.1) fun v3 => if s0 = 0 then (fX8_added3_j62 this k5 (y1 - v3) q2.2) else (fX8_added3_j62 this k5 (y1 + v3) q2.2)
def fX8_added3_j23 (this : Nat) (k5 : Int32 → zS → Option (Int32 × zS)) (y1 : Int32) (st : zS) : Option (Int32 × zS) :=
  (zok spM st (some this) 8).bind fun o6 => if (lg_cmp (st.2.2.1 o6) (43 : Int64)) = 0 then (fX8_added3_j39 this k5 y1 (1 : Int32) st) else (fX8_added3_j39 this k5 y1 (0 : Int32) st)
def fX8_added3_L5 (this : Nat) : Nat → Int32 → zS → Option (Int32 × zS)
  | 0, _, _ => none
  | n + 1, y1, st => (zok spM st (some this) 8).bind fun o10 => (fX8_isSign o10 (43 : Int32) st).bind fun q7 => if q7.1 = 0 then ((zok spM q7.2 (some this) 8).bind fun o9 => (fX8_isSign o9 (45 : Int32) q7.2).bind fun q8 => if q8.1 = 0 then (some (y1, q8.2)) else (fX8_added3_j23 this (fX8_added3_L5 this n) y1 q8.2)) else (fX8_added3_j23 this (fX8_added3_L5 this n) y1 q7.2)
def fX8_added3 (this : Nat) (st : zS) : Option (Int32 × zS) :=
  (zok spM st (some this) 8).bind fun o13 => (fX8_term3 o13 st).bind fun q11 => zlet (q11.1) fun v12 => fX8_added3_L5 this zF v12 q11.2
set_option maxRecDepth 100000 in
set_option maxHeartbeats 4000000 in
theorem kX8_added3 (l : Launch) (Z : zZ) (b : Nat) (x : Option Nat) (this : Nat) (st : zS) : zC l Z spM b x yX8_added3 (.code yX8_added3 cX8_added3 4 (some .int)) (rmX8_added3) rI [vP (some this)] st (fX8_added3 this st) := by
  refine z_start (own := RX8) rfl (by decide +kernel) (Nat.le_of_ble_eq_true rfl) rfl (fun p e s m args below meth c res Q A X hK hr hlocks hQ => ?_)
  have J5 : ∀ (n5 : Nat) (y1 : Int32) (st : zS), zs p l e (rmX8_added3) s m args below meth c Q Z spM b x A 4 0 0 res (fX8_added3_L5 this n5 y1 st) 5 [(0, vP (some this)), (1, vI y1)] [] st := by
    intro n5
    induction n5 with
    | zero => intros; exact z_none
    | succ n5 ih5 =>
      have J62 : ∀ (s0 : Int32) (st : zS), zs p l e (rmX8_added3) s m args below meth c Q Z spM b x A 4 0 0 res (fX8_added3_j62 this (fX8_added3_L5 this n5) s0 st) 62 [(0, vP (some this))] [vI s0] st := by
        intro s0 st
        rw [fX8_added3_j62]
        refine z_istore_n X dX8_added3_62 rfl (Nat.le_of_ble_eq_true rfl) rfl ?_
        refine z_goto X (tgt := 5) dX8_added3_63 (by decide) ?_
        exact z_sub [1, 0] (ih5 _ _) rfl
      have J39 : ∀ (y1 : Int32) (s0 : Int32) (st : zS), zs p l e (rmX8_added3) s m args below meth c Q Z spM b x A 4 0 0 res (fX8_added3_j39 this (fX8_added3_L5 this n5) y1 s0 st) 39 [(0, vP (some this)), (1, vI y1)] [vI s0] st := by
        intro y1 s0 st
        rw [fX8_added3_j39]
        refine z_istore_n X dX8_added3_39 rfl (Nat.le_of_ble_eq_true rfl) rfl ?_
        refine z_aload_n X (q := 1) dX8_added3_40 rfl rfl ?_
        refine z_callV X hK (As := []) (ci := 8) rfl (by decide) (fun o => (kX8_next l Z  b x o _)) hk_X8_172 ⟨rfl, rfl⟩ hd_X8_next ⟨Nat.le_of_ble_eq_true rfl, Nat.le_of_ble_eq_true rfl⟩ ⟨Nat.le_of_ble_eq_true rfl, Nat.le_of_ble_eq_true rfl⟩ rfl rfl (Nat.le_of_ble_eq_true rfl) dX8_added3_41 (fun _ q1 _ => ?_)
        refine z_aload_n X (q := 1) dX8_added3_44 rfl rfl ?_
        refine z_callV X hK (As := []) (ci := 8) rfl (by decide) (fun o => (kX8_term3 l Z  b x o _)) hk_X8_251 ⟨rfl, rfl⟩ hd_X8_term3 ⟨Nat.le_of_ble_eq_true rfl, Nat.le_of_ble_eq_true rfl⟩ ⟨Nat.le_of_ble_eq_true rfl, Nat.le_of_ble_eq_true rfl⟩ rfl rfl (Nat.le_of_ble_eq_true rfl) dX8_added3_45 (fun _ q2 _ => ?_)
        refine z_name (fun v3 => ?_)
        refine z_istore_n X dX8_added3_48 rfl (Nat.le_of_ble_eq_true rfl) rfl ?_
        refine z_iload_n X (q := 1) dX8_added3_49 rfl rfl ?_
        refine z_if_eq X (tgt := 59) dX8_added3_50 (by decide) (fun _ => ?_) (fun _ => ?_)
        · refine z_iload_n X (q := 3) dX8_added3_59 rfl rfl ?_
          refine z_iload_n X (q := 0) dX8_added3_60 rfl rfl ?_
          refine z_isub X dX8_added3_61 ?_
          exact z_sub [2] (J62 _ _) rfl
        · refine z_iload_n X (q := 3) dX8_added3_53 rfl rfl ?_
          refine z_iload_n X (q := 0) dX8_added3_54 rfl rfl ?_
          refine z_iadd X dX8_added3_55 ?_
          refine z_goto X (tgt := 62) dX8_added3_56 (by decide) ?_
          exact z_sub [2] (J62 _ _) rfl
      have J23 : ∀ (y1 : Int32) (st : zS), zs p l e (rmX8_added3) s m args below meth c Q Z spM b x A 4 0 0 res (fX8_added3_j23 this (fX8_added3_L5 this n5) y1 st) 23 [(0, vP (some this)), (1, vI y1)] [] st := by
        intro y1 st
        rw [fX8_added3_j23]
        refine z_aload_n X (q := 0) dX8_added3_23 rfl rfl ?_
        refine z_getl X hK (N := 46) (ci := 8) (k := 24) rfl (by decide) inlX8 (by decide) hf_X8_149 rfl spM_X8 rfl dX8_added3_24 (fun o6 _ => ?_)
        refine z_ldc2 X (v := (43 : Int64)) (hc_X8_214) dX8_added3_27 ?_
        refine z_lcmp X dX8_added3_30 ?_
        refine z_if_ne X (tgt := 38) dX8_added3_31 (by decide) (fun _ => ?_) (fun _ => ?_)
        · refine z_iconst X (v := (0 : Int32)) dX8_added3_38 (by decide) ?_
          exact z_sub [0, 1] (J39 _ _ _) rfl
        · refine z_iconst X (v := (1 : Int32)) dX8_added3_34 (by decide) ?_
          refine z_goto X (tgt := 39) dX8_added3_35 (by decide) ?_
          exact z_sub [0, 1] (J39 _ _ _) rfl
      intro y1 st
      rw [fX8_added3_L5]
      refine z_aload_n X (q := 0) dX8_added3_5 rfl rfl ?_
      refine z_bipush X (v := (43 : Int32)) dX8_added3_6 (by decide) ?_
      refine z_callV X hK (As := [vI (43 : Int32)]) (ci := 8) rfl (by decide) (fun o => (kX8_isSign l Z  b x o _ _)) hk_X8_197 ⟨rfl, rfl⟩ hd_X8_isSign ⟨Nat.le_of_ble_eq_true rfl, Nat.le_of_ble_eq_true rfl⟩ ⟨Nat.le_of_ble_eq_true rfl, Nat.le_of_ble_eq_true rfl⟩ rfl rfl (Nat.le_of_ble_eq_true rfl) dX8_added3_8 (fun _ q7 _ => ?_)
      refine z_if_ne X (tgt := 23) dX8_added3_11 (by decide) (fun _ => ?_) (fun _ => ?_)
      · exact z_sub [0, 1] (J23 _ _) rfl
      · refine z_aload_n X (q := 0) dX8_added3_14 rfl rfl ?_
        refine z_bipush X (v := (45 : Int32)) dX8_added3_15 (by decide) ?_
        refine z_callV X hK (As := [vI (45 : Int32)]) (ci := 8) rfl (by decide) (fun o => (kX8_isSign l Z  b x o _ _)) hk_X8_197 ⟨rfl, rfl⟩ hd_X8_isSign ⟨Nat.le_of_ble_eq_true rfl, Nat.le_of_ble_eq_true rfl⟩ ⟨Nat.le_of_ble_eq_true rfl, Nat.le_of_ble_eq_true rfl⟩ rfl rfl (Nat.le_of_ble_eq_true rfl) dX8_added3_17 (fun _ q8 _ => ?_)
        refine z_if_eq X (tgt := 66) dX8_added3_20 (by decide) (fun _ => ?_) (fun _ => ?_)
        · refine z_iload_n X (q := 1) dX8_added3_66 rfl rfl ?_
          subst hQ; exact z_iret X hlocks hr dX8_added3_67
        · exact z_sub [0, 1] (J23 _ _) rfl
  rw [fX8_added3]
  refine z_aload_n X (q := 0) dX8_added3_0 rfl rfl ?_
  refine z_callV X hK (As := []) (ci := 8) rfl (by decide) (fun o => (kX8_term3 l Z  b x o _)) hk_X8_251 ⟨rfl, rfl⟩ hd_X8_term3 ⟨Nat.le_of_ble_eq_true rfl, Nat.le_of_ble_eq_true rfl⟩ ⟨Nat.le_of_ble_eq_true rfl, Nat.le_of_ble_eq_true rfl⟩ rfl rfl (Nat.le_of_ble_eq_true rfl) dX8_added3_1 (fun _ q11 _ => ?_)
  refine z_name (fun v12 => ?_)
  refine z_istore_n X dX8_added3_4 rfl (Nat.le_of_ble_eq_true rfl) rfl ?_
  exact z_sub [1, 0] (J5 _ _ _) rfl
theorem zw_631 : Cond.methodLink RX8 254 yX8_added3 ∈ wsL_law := zr_16 _ (by decide +kernel)
theorem zw_632 : Cond.instanceMethod yX8_added3 ∈ wsL_law := zr_16 _ (by decide +kernel)
theorem zw_633 : Cond.selects RX8 yX8_added3 yX8_added3 ∈ wsL_law := zr_16 _ (by decide +kernel)
theorem zw_634 : Cond.code yX8_added3 cX8_added3 4 (some .int) ∈ wsL_law := zr_16 _ (by decide +kernel)
theorem hk_X8_254 : ∀ w ∈ ([Cond.methodLink RX8 254 yX8_added3, Cond.instanceMethod yX8_added3, Cond.selects RX8 yX8_added3 yX8_added3, Cond.initialized RX8, Cond.code yX8_added3 cX8_added3 4 (some .int)] : List Cond), w ∈ wsL_law := List.forall_mem_cons.mpr ⟨zw_631, List.forall_mem_cons.mpr ⟨zw_632, List.forall_mem_cons.mpr ⟨zw_633, List.forall_mem_cons.mpr ⟨zw_525, List.forall_mem_cons.mpr ⟨zw_634, fun _ h => absurd h List.not_mem_nil⟩⟩⟩⟩⟩
theorem hd_X8_added3 : yX8_added3.cls = RX8 ∧ yX8_added3.cls ≠ "java/lang/invoke/MethodHandle" ∧ yX8_added3.cls ≠ "java/lang/invoke/VarHandle" ∧ (parseMethodDescriptor yX8_added3.desc).map (fun d => d.parameters.length) = some 0 := by decide +kernel
abbrev rmX8_not3 : Room := { frames := 20, cells := 0, slots := 0, locals := 460 }
def fX8_not3_j120 (this : Nat) (st : zS) : Option (Int32 × zS) :=
  some ((1 : Int32), st)
def fX8_not3_j124 (this : Nat) (st : zS) : Option (Int32 × zS) :=
  some ((0 : Int32), st)
def fX8_not3_j93 (this : Nat) (y1 : Int32) (s0 : Int32) (st : zS) : Option (Int32 × zS) :=
  (zok spM st (some this) 8).bind fun o5 => (fX8_next o5 st).bind fun q1 => (zok spM q1.2 (some this) 8).bind fun o4 => (fX8_added3 o4 q1.2).bind fun q2 => zlet (q2.1) fun v3 => if s0 = 0 then (if y1 = v3 then (fX8_not3_j120 this q2.2) else (fX8_not3_j124 this q2.2)) else (if v3 ≤ y1 then (fX8_not3_j124 this q2.2) else (fX8_not3_j120 this q2.2))
def fX8_not3_j77 (this : Nat) (y1 : Int32) (st : zS) : Option (Int32 × zS) :=
  (zok spM st (some this) 8).bind fun o6 => if (lg_cmp (st.2.2.1 o6) (60 : Int64)) = 0 then (fX8_not3_j93 this y1 (1 : Int32) st) else (fX8_not3_j93 this y1 (0 : Int32) st)
def fX8_not3 (this : Nat) (st : zS) : Option (Int32 × zS) :=
  (zok spM st (some this) 8).bind fun o23 => (fX8_isWord o23 (110 : Int32) (111 : Int32) (116 : Int32) (0 : Int32) (0 : Int32) (0 : Int32) (0 : Int32) (0 : Int32) st).bind fun q7 => if q7.1 = 0 then ((zok spM q7.2 (some this) 8).bind fun o14 => (fX8_added3 o14 q7.2).bind fun q8 => zlet (q8.1) fun v9 => (zok spM q8.2 (some this) 8).bind fun o13 => (fX8_isSign o13 (60 : Int32) q8.2).bind fun q10 => if q10.1 = 0 then ((zok spM q10.2 (some this) 8).bind fun o12 => (fX8_isSign o12 (61 : Int32) q10.2).bind fun q11 => if q11.1 = 0 then (some (v9, q11.2)) else (fX8_not3_j77 this v9 q11.2)) else (fX8_not3_j77 this v9 q10.2)) else ((zok spM q7.2 (some this) 8).bind fun o22 => (fX8_opens o22 q7.2).bind fun q15 => if q15.1 = 0 then (some ((0 : Int32), q15.2)) else ((zok spM q15.2 (some this) 8).bind fun o21 => (fX8_not4 o21 q15.2).bind fun q16 => zlet (q16.1) fun v17 => (zok spM q16.2 (some this) 8).bind fun o18 => (zok spM q16.2 (some this) 8).bind fun o19 => zlet (zp q16.2 o19 25 ((q16.2.2.1 o18 25) - (1 : Int32))) fun st20 => if v17 = 0 then (some ((1 : Int32), st20)) else (some ((0 : Int32), st20))))
set_option maxRecDepth 100000 in
set_option maxHeartbeats 4000000 in
theorem kX8_not3 (l : Launch) (Z : zZ) (b : Nat) (x : Option Nat) (this : Nat) (st : zS) : zC l Z spM b x yX8_not3 (.code yX8_not3 cX8_not3 4 (some .int)) (rmX8_not3) rI [vP (some this)] st (fX8_not3 this st) := by
  refine z_start (own := RX8) rfl (by decide +kernel) (Nat.le_of_ble_eq_true rfl) rfl (fun p e s m args below meth c res Q A X hK hr hlocks hQ => ?_)
  have J120 : ∀ (st : zS), zs p l e (rmX8_not3) s m args below meth c Q Z spM b x A 4 0 0 res (fX8_not3_j120 this st) 120 [] [] st := by
    intro  st
    rw [fX8_not3_j120]
    refine z_iconst X (v := (1 : Int32)) dX8_not3_120 (by decide) ?_
    refine z_goto X (tgt := 125) dX8_not3_121 (by decide) ?_
    subst hQ; exact z_iret X hlocks hr dX8_not3_125
  have J124 : ∀ (st : zS), zs p l e (rmX8_not3) s m args below meth c Q Z spM b x A 4 0 0 res (fX8_not3_j124 this st) 124 [] [] st := by
    intro  st
    rw [fX8_not3_j124]
    refine z_iconst X (v := (0 : Int32)) dX8_not3_124 (by decide) ?_
    subst hQ; exact z_iret X hlocks hr dX8_not3_125
  have J93 : ∀ (y1 : Int32) (s0 : Int32) (st : zS), zs p l e (rmX8_not3) s m args below meth c Q Z spM b x A 4 0 0 res (fX8_not3_j93 this y1 s0 st) 93 [(0, vP (some this)), (1, vI y1)] [vI s0] st := by
    intro y1 s0 st
    rw [fX8_not3_j93]
    refine z_istore_n X dX8_not3_93 rfl (Nat.le_of_ble_eq_true rfl) rfl ?_
    refine z_aload_n X (q := 1) dX8_not3_94 rfl rfl ?_
    refine z_callV X hK (As := []) (ci := 8) rfl (by decide) (fun o => (kX8_next l Z  b x o _)) hk_X8_172 ⟨rfl, rfl⟩ hd_X8_next ⟨Nat.le_of_ble_eq_true rfl, Nat.le_of_ble_eq_true rfl⟩ ⟨Nat.le_of_ble_eq_true rfl, Nat.le_of_ble_eq_true rfl⟩ rfl rfl (Nat.le_of_ble_eq_true rfl) dX8_not3_95 (fun _ q1 _ => ?_)
    refine z_aload_n X (q := 1) dX8_not3_98 rfl rfl ?_
    refine z_callV X hK (As := []) (ci := 8) rfl (by decide) (fun o => (kX8_added3 l Z  b x o _)) hk_X8_254 ⟨rfl, rfl⟩ hd_X8_added3 ⟨Nat.le_of_ble_eq_true rfl, Nat.le_of_ble_eq_true rfl⟩ ⟨Nat.le_of_ble_eq_true rfl, Nat.le_of_ble_eq_true rfl⟩ rfl rfl (Nat.le_of_ble_eq_true rfl) dX8_not3_99 (fun _ q2 _ => ?_)
    refine z_name (fun v3 => ?_)
    refine z_istore_n X dX8_not3_102 rfl (Nat.le_of_ble_eq_true rfl) rfl ?_
    refine z_iload_n X (q := 1) dX8_not3_103 rfl rfl ?_
    refine z_if_eq X (tgt := 115) dX8_not3_104 (by decide) (fun _ => ?_) (fun _ => ?_)
    · refine z_iload_n X (q := 3) dX8_not3_115 rfl rfl ?_
      refine z_iload_n X (q := 0) dX8_not3_116 rfl rfl ?_
      refine z_icmp_ne X (tgt := 124) dX8_not3_117 (by decide) (fun _ => ?_) (fun _ => ?_)
      · exact z_sub [] (J124  _) rfl
      · exact z_sub [] (J120  _) rfl
    · refine z_iload_n X (q := 3) dX8_not3_107 rfl rfl ?_
      refine z_iload_n X (q := 0) dX8_not3_108 rfl rfl ?_
      refine z_icmp_ge X (tgt := 124) dX8_not3_109 (by decide) (fun _ => ?_) (fun _ => ?_)
      · exact z_sub [] (J124  _) rfl
      · refine z_goto X (tgt := 120) dX8_not3_112 (by decide) ?_
        exact z_sub [] (J120  _) rfl
  have J77 : ∀ (y1 : Int32) (st : zS), zs p l e (rmX8_not3) s m args below meth c Q Z spM b x A 4 0 0 res (fX8_not3_j77 this y1 st) 77 [(0, vP (some this)), (1, vI y1)] [] st := by
    intro y1 st
    rw [fX8_not3_j77]
    refine z_aload_n X (q := 0) dX8_not3_77 rfl rfl ?_
    refine z_getl X hK (N := 46) (ci := 8) (k := 24) rfl (by decide) inlX8 (by decide) hf_X8_149 rfl spM_X8 rfl dX8_not3_78 (fun o6 _ => ?_)
    refine z_ldc2 X (v := (60 : Int64)) (hc_X8_219) dX8_not3_81 ?_
    refine z_lcmp X dX8_not3_84 ?_
    refine z_if_ne X (tgt := 92) dX8_not3_85 (by decide) (fun _ => ?_) (fun _ => ?_)
    · refine z_iconst X (v := (0 : Int32)) dX8_not3_92 (by decide) ?_
      exact z_sub [0, 1] (J93 _ _ _) rfl
    · refine z_iconst X (v := (1 : Int32)) dX8_not3_88 (by decide) ?_
      refine z_goto X (tgt := 93) dX8_not3_89 (by decide) ?_
      exact z_sub [0, 1] (J93 _ _ _) rfl
  rw [fX8_not3]
  refine z_aload_n X (q := 0) dX8_not3_0 rfl rfl ?_
  refine z_bipush X (v := (110 : Int32)) dX8_not3_1 (by decide) ?_
  refine z_bipush X (v := (111 : Int32)) dX8_not3_3 (by decide) ?_
  refine z_bipush X (v := (116 : Int32)) dX8_not3_5 (by decide) ?_
  refine z_iconst X (v := (0 : Int32)) dX8_not3_7 (by decide) ?_
  refine z_iconst X (v := (0 : Int32)) dX8_not3_8 (by decide) ?_
  refine z_iconst X (v := (0 : Int32)) dX8_not3_9 (by decide) ?_
  refine z_iconst X (v := (0 : Int32)) dX8_not3_10 (by decide) ?_
  refine z_iconst X (v := (0 : Int32)) dX8_not3_11 (by decide) ?_
  refine z_callV X hK (As := [vI (110 : Int32), vI (111 : Int32), vI (116 : Int32), vI (0 : Int32), vI (0 : Int32), vI (0 : Int32), vI (0 : Int32), vI (0 : Int32)]) (ci := 8) rfl (by decide) (fun o => (kX8_isWord l Z  b x o _ _ _ _ _ _ _ _ _)) hk_X8_175 ⟨rfl, rfl⟩ hd_X8_isWord ⟨Nat.le_of_ble_eq_true rfl, Nat.le_of_ble_eq_true rfl⟩ ⟨Nat.le_of_ble_eq_true rfl, Nat.le_of_ble_eq_true rfl⟩ rfl rfl (Nat.le_of_ble_eq_true rfl) dX8_not3_12 (fun _ q7 _ => ?_)
  refine z_if_eq X (tgt := 52) dX8_not3_15 (by decide) (fun _ => ?_) (fun _ => ?_)
  · refine z_aload_n X (q := 0) dX8_not3_52 rfl rfl ?_
    refine z_callV X hK (As := []) (ci := 8) rfl (by decide) (fun o => (kX8_added3 l Z  b x o _)) hk_X8_254 ⟨rfl, rfl⟩ hd_X8_added3 ⟨Nat.le_of_ble_eq_true rfl, Nat.le_of_ble_eq_true rfl⟩ ⟨Nat.le_of_ble_eq_true rfl, Nat.le_of_ble_eq_true rfl⟩ rfl rfl (Nat.le_of_ble_eq_true rfl) dX8_not3_53 (fun _ q8 _ => ?_)
    refine z_name (fun v9 => ?_)
    refine z_istore_n X dX8_not3_56 rfl (Nat.le_of_ble_eq_true rfl) rfl ?_
    refine z_aload_n X (q := 1) dX8_not3_57 rfl rfl ?_
    refine z_bipush X (v := (60 : Int32)) dX8_not3_58 (by decide) ?_
    refine z_callV X hK (As := [vI (60 : Int32)]) (ci := 8) rfl (by decide) (fun o => (kX8_isSign l Z  b x o _ _)) hk_X8_197 ⟨rfl, rfl⟩ hd_X8_isSign ⟨Nat.le_of_ble_eq_true rfl, Nat.le_of_ble_eq_true rfl⟩ ⟨Nat.le_of_ble_eq_true rfl, Nat.le_of_ble_eq_true rfl⟩ rfl rfl (Nat.le_of_ble_eq_true rfl) dX8_not3_60 (fun _ q10 _ => ?_)
    refine z_if_ne X (tgt := 77) dX8_not3_63 (by decide) (fun _ => ?_) (fun _ => ?_)
    · exact z_sub [1, 0] (J77 _ _) rfl
    · refine z_aload_n X (q := 1) dX8_not3_66 rfl rfl ?_
      refine z_bipush X (v := (61 : Int32)) dX8_not3_67 (by decide) ?_
      refine z_callV X hK (As := [vI (61 : Int32)]) (ci := 8) rfl (by decide) (fun o => (kX8_isSign l Z  b x o _ _)) hk_X8_197 ⟨rfl, rfl⟩ hd_X8_isSign ⟨Nat.le_of_ble_eq_true rfl, Nat.le_of_ble_eq_true rfl⟩ ⟨Nat.le_of_ble_eq_true rfl, Nat.le_of_ble_eq_true rfl⟩ rfl rfl (Nat.le_of_ble_eq_true rfl) dX8_not3_69 (fun _ q11 _ => ?_)
      refine z_if_ne X (tgt := 77) dX8_not3_72 (by decide) (fun _ => ?_) (fun _ => ?_)
      · exact z_sub [1, 0] (J77 _ _) rfl
      · refine z_iload_n X (q := 0) dX8_not3_75 rfl rfl ?_
        subst hQ; exact z_iret X hlocks hr dX8_not3_76
  · refine z_aload_n X (q := 0) dX8_not3_18 rfl rfl ?_
    refine z_callV X hK (As := []) (ci := 8) rfl (by decide) (fun o => (kX8_opens l Z  b x o _)) hk_X8_200 ⟨rfl, rfl⟩ hd_X8_opens ⟨Nat.le_of_ble_eq_true rfl, Nat.le_of_ble_eq_true rfl⟩ ⟨Nat.le_of_ble_eq_true rfl, Nat.le_of_ble_eq_true rfl⟩ rfl rfl (Nat.le_of_ble_eq_true rfl) dX8_not3_19 (fun _ q15 _ => ?_)
    refine z_if_ne X (tgt := 27) dX8_not3_22 (by decide) (fun _ => ?_) (fun _ => ?_)
    · refine z_aload_n X (q := 0) dX8_not3_27 rfl rfl ?_
      refine z_callV X hK (As := []) (ci := 8) rfl (by decide) (fun o => (kX8_not4 l Z  b x o _)) hk_X8_239 ⟨rfl, rfl⟩ hd_X8_not4 ⟨Nat.le_of_ble_eq_true rfl, Nat.le_of_ble_eq_true rfl⟩ ⟨Nat.le_of_ble_eq_true rfl, Nat.le_of_ble_eq_true rfl⟩ rfl rfl (Nat.le_of_ble_eq_true rfl) dX8_not3_28 (fun _ q16 _ => ?_)
      refine z_name (fun v17 => ?_)
      refine z_istore_n X dX8_not3_31 rfl (Nat.le_of_ble_eq_true rfl) rfl ?_
      refine z_aload_n X (q := 1) dX8_not3_32 rfl rfl ?_
      refine z_dup X dX8_not3_33 rfl ?_
      refine z_geti X hK (N := 46) (ci := 8) (k := 25) rfl (by decide) inlX8 (by decide) hf_X8_166 rfl spM_X8 rfl dX8_not3_34 (fun o18 _ => ?_)
      refine z_iconst X (v := (1 : Int32)) dX8_not3_37 (by decide) ?_
      refine z_isub X dX8_not3_38 ?_
      refine z_puti X hK (N := 46) (ci := 8) (k := 25) rfl (by decide) inlX8 tyX8 tyX8_ok nmX8 (by decide) hf_X8_166 rfl rfl spM_X8 rfl (by decide +kernel) dX8_not3_39 (fun o19 st20 _ => ?_)
      refine z_iload_n X (q := 0) dX8_not3_42 rfl rfl ?_
      refine z_if_ne X (tgt := 50) dX8_not3_43 (by decide) (fun _ => ?_) (fun _ => ?_)
      · refine z_iconst X (v := (0 : Int32)) dX8_not3_50 (by decide) ?_
        subst hQ; exact z_iret X hlocks hr dX8_not3_51
      · refine z_iconst X (v := (1 : Int32)) dX8_not3_46 (by decide) ?_
        refine z_goto X (tgt := 51) dX8_not3_47 (by decide) ?_
        subst hQ; exact z_iret X hlocks hr dX8_not3_51
    · refine z_iconst X (v := (0 : Int32)) dX8_not3_25 (by decide) ?_
      subst hQ; exact z_iret X hlocks hr dX8_not3_26
theorem zw_635 : Cond.methodLink RX8 257 yX8_not3 ∈ wsL_law := zr_14 _ (by decide +kernel)
theorem zw_636 : Cond.instanceMethod yX8_not3 ∈ wsL_law := zr_14 _ (by decide +kernel)
theorem zw_637 : Cond.selects RX8 yX8_not3 yX8_not3 ∈ wsL_law := zr_14 _ (by decide +kernel)
theorem zw_638 : Cond.code yX8_not3 cX8_not3 4 (some .int) ∈ wsL_law := zr_14 _ (by decide +kernel)
theorem hk_X8_257 : ∀ w ∈ ([Cond.methodLink RX8 257 yX8_not3, Cond.instanceMethod yX8_not3, Cond.selects RX8 yX8_not3 yX8_not3, Cond.initialized RX8, Cond.code yX8_not3 cX8_not3 4 (some .int)] : List Cond), w ∈ wsL_law := List.forall_mem_cons.mpr ⟨zw_635, List.forall_mem_cons.mpr ⟨zw_636, List.forall_mem_cons.mpr ⟨zw_637, List.forall_mem_cons.mpr ⟨zw_525, List.forall_mem_cons.mpr ⟨zw_638, fun _ h => absurd h List.not_mem_nil⟩⟩⟩⟩⟩
theorem hd_X8_not3 : yX8_not3.cls = RX8 ∧ yX8_not3.cls ≠ "java/lang/invoke/MethodHandle" ∧ yX8_not3.cls ≠ "java/lang/invoke/VarHandle" ∧ (parseMethodDescriptor yX8_not3.desc).map (fun d => d.parameters.length) = some 0 := by decide +kernel
abbrev rmX8_both3 : Room := { frames := 21, cells := 0, slots := 0, locals := 483 }
def fX8_both3_j45 (this : Nat) (k5 : Int32 → zS → Option (Int32 × zS)) (s0 : Int32) (st : zS) : Option (Int32 × zS) :=
  k5 s0 st
def fX8_both3_j44 (this : Nat) (k5 : Int32 → zS → Option (Int32 × zS)) (st : zS) : Option (Int32 × zS) :=
  fX8_both3_j45 this k5 (0 : Int32) st
def fX8_both3_L5 (this : Nat) : Nat → Int32 → zS → Option (Int32 × zS)
  | 0, _, _ => none
  | n + 1, y1, st => (zok spM st (some this) 8).bind fun o7 => (fX8_isWord o7 (97 : Int32) (110 : Int32) (100 : Int32) (0 : Int32) (0 : Int32) (0 : Int32) (0 : Int32) (0 : Int32) st).bind fun q1 => if q1.1 = 0 then (some (y1, q1.2)) else ((zok spM q1.2 (some this) 8).bind fun o6 => (fX8_next o6 q1.2).bind fun q2 => (zok spM q2.2 (some this) 8).bind fun o5 => (fX8_not3 o5 q2.2).bind fun q3 => zlet (q3.1) fun v4 => if y1 = 0 then (fX8_both3_j44 this (fX8_both3_L5 this n) q3.2) else (if v4 = 0 then (fX8_both3_j44 this (fX8_both3_L5 this n) q3.2) else (fX8_both3_j45 this (fX8_both3_L5 this n) (1 : Int32) q3.2)))
def fX8_both3 (this : Nat) (st : zS) : Option (Int32 × zS) :=
  (zok spM st (some this) 8).bind fun o10 => (fX8_not3 o10 st).bind fun q8 => zlet (q8.1) fun v9 => fX8_both3_L5 this zF v9 q8.2
set_option maxRecDepth 100000 in
set_option maxHeartbeats 4000000 in
theorem kX8_both3 (l : Launch) (Z : zZ) (b : Nat) (x : Option Nat) (this : Nat) (st : zS) : zC l Z spM b x yX8_both3 (.code yX8_both3 cX8_both3 3 (some .int)) (rmX8_both3) rI [vP (some this)] st (fX8_both3 this st) := by
  refine z_start (own := RX8) rfl (by decide +kernel) (Nat.le_of_ble_eq_true rfl) rfl (fun p e s m args below meth c res Q A X hK hr hlocks hQ => ?_)
  have J5 : ∀ (n5 : Nat) (y1 : Int32) (st : zS), zs p l e (rmX8_both3) s m args below meth c Q Z spM b x A 3 0 0 res (fX8_both3_L5 this n5 y1 st) 5 [(0, vP (some this)), (1, vI y1)] [] st := by
    intro n5
    induction n5 with
    | zero => intros; exact z_none
    | succ n5 ih5 =>
      have J45 : ∀ (s0 : Int32) (st : zS), zs p l e (rmX8_both3) s m args below meth c Q Z spM b x A 3 0 0 res (fX8_both3_j45 this (fX8_both3_L5 this n5) s0 st) 45 [(0, vP (some this))] [vI s0] st := by
        intro s0 st
        rw [fX8_both3_j45]
        refine z_istore_n X dX8_both3_45 rfl (Nat.le_of_ble_eq_true rfl) rfl ?_
        refine z_goto X (tgt := 5) dX8_both3_46 (by decide) ?_
        exact z_sub [1, 0] (ih5 _ _) rfl
      have J44 : ∀ (st : zS), zs p l e (rmX8_both3) s m args below meth c Q Z spM b x A 3 0 0 res (fX8_both3_j44 this (fX8_both3_L5 this n5) st) 44 [(0, vP (some this))] [] st := by
        intro  st
        rw [fX8_both3_j44]
        refine z_iconst X (v := (0 : Int32)) dX8_both3_44 (by decide) ?_
        exact z_sub [0] (J45 _ _) rfl
      intro y1 st
      rw [fX8_both3_L5]
      refine z_aload_n X (q := 0) dX8_both3_5 rfl rfl ?_
      refine z_bipush X (v := (97 : Int32)) dX8_both3_6 (by decide) ?_
      refine z_bipush X (v := (110 : Int32)) dX8_both3_8 (by decide) ?_
      refine z_bipush X (v := (100 : Int32)) dX8_both3_10 (by decide) ?_
      refine z_iconst X (v := (0 : Int32)) dX8_both3_12 (by decide) ?_
      refine z_iconst X (v := (0 : Int32)) dX8_both3_13 (by decide) ?_
      refine z_iconst X (v := (0 : Int32)) dX8_both3_14 (by decide) ?_
      refine z_iconst X (v := (0 : Int32)) dX8_both3_15 (by decide) ?_
      refine z_iconst X (v := (0 : Int32)) dX8_both3_16 (by decide) ?_
      refine z_callV X hK (As := [vI (97 : Int32), vI (110 : Int32), vI (100 : Int32), vI (0 : Int32), vI (0 : Int32), vI (0 : Int32), vI (0 : Int32), vI (0 : Int32)]) (ci := 8) rfl (by decide) (fun o => (kX8_isWord l Z  b x o _ _ _ _ _ _ _ _ _)) hk_X8_175 ⟨rfl, rfl⟩ hd_X8_isWord ⟨Nat.le_of_ble_eq_true rfl, Nat.le_of_ble_eq_true rfl⟩ ⟨Nat.le_of_ble_eq_true rfl, Nat.le_of_ble_eq_true rfl⟩ rfl rfl (Nat.le_of_ble_eq_true rfl) dX8_both3_17 (fun _ q1 _ => ?_)
      refine z_if_eq X (tgt := 49) dX8_both3_20 (by decide) (fun _ => ?_) (fun _ => ?_)
      · refine z_iload_n X (q := 1) dX8_both3_49 rfl rfl ?_
        subst hQ; exact z_iret X hlocks hr dX8_both3_50
      · refine z_aload_n X (q := 0) dX8_both3_23 rfl rfl ?_
        refine z_callV X hK (As := []) (ci := 8) rfl (by decide) (fun o => (kX8_next l Z  b x o _)) hk_X8_172 ⟨rfl, rfl⟩ hd_X8_next ⟨Nat.le_of_ble_eq_true rfl, Nat.le_of_ble_eq_true rfl⟩ ⟨Nat.le_of_ble_eq_true rfl, Nat.le_of_ble_eq_true rfl⟩ rfl rfl (Nat.le_of_ble_eq_true rfl) dX8_both3_24 (fun _ q2 _ => ?_)
        refine z_aload_n X (q := 0) dX8_both3_27 rfl rfl ?_
        refine z_callV X hK (As := []) (ci := 8) rfl (by decide) (fun o => (kX8_not3 l Z  b x o _)) hk_X8_257 ⟨rfl, rfl⟩ hd_X8_not3 ⟨Nat.le_of_ble_eq_true rfl, Nat.le_of_ble_eq_true rfl⟩ ⟨Nat.le_of_ble_eq_true rfl, Nat.le_of_ble_eq_true rfl⟩ rfl rfl (Nat.le_of_ble_eq_true rfl) dX8_both3_28 (fun _ q3 _ => ?_)
        refine z_name (fun v4 => ?_)
        refine z_istore_n X dX8_both3_31 rfl (Nat.le_of_ble_eq_true rfl) rfl ?_
        refine z_iload_n X (q := 2) dX8_both3_32 rfl rfl ?_
        refine z_if_eq X (tgt := 44) dX8_both3_33 (by decide) (fun _ => ?_) (fun _ => ?_)
        · exact z_sub [1] (J44  _) rfl
        · refine z_iload_n X (q := 0) dX8_both3_36 rfl rfl ?_
          refine z_if_eq X (tgt := 44) dX8_both3_37 (by decide) (fun _ => ?_) (fun _ => ?_)
          · exact z_sub [1] (J44  _) rfl
          · refine z_iconst X (v := (1 : Int32)) dX8_both3_40 (by decide) ?_
            refine z_goto X (tgt := 45) dX8_both3_41 (by decide) ?_
            exact z_sub [1] (J45 _ _) rfl
  rw [fX8_both3]
  refine z_aload_n X (q := 0) dX8_both3_0 rfl rfl ?_
  refine z_callV X hK (As := []) (ci := 8) rfl (by decide) (fun o => (kX8_not3 l Z  b x o _)) hk_X8_257 ⟨rfl, rfl⟩ hd_X8_not3 ⟨Nat.le_of_ble_eq_true rfl, Nat.le_of_ble_eq_true rfl⟩ ⟨Nat.le_of_ble_eq_true rfl, Nat.le_of_ble_eq_true rfl⟩ rfl rfl (Nat.le_of_ble_eq_true rfl) dX8_both3_1 (fun _ q8 _ => ?_)
  refine z_name (fun v9 => ?_)
  refine z_istore_n X dX8_both3_4 rfl (Nat.le_of_ble_eq_true rfl) rfl ?_
  exact z_sub [1, 0] (J5 _ _ _) rfl
