theorem zw_687 : Cond.methodLink RX8 296 yX8_both1 ∈ wsL_law := zr_19 _ (by decide +kernel)
theorem zw_688 : Cond.instanceMethod yX8_both1 ∈ wsL_law := zr_19 _ (by decide +kernel)
theorem zw_689 : Cond.selects RX8 yX8_both1 yX8_both1 ∈ wsL_law := zr_19 _ (by decide +kernel)
theorem zw_690 : Cond.code yX8_both1 cX8_both1 3 (some .int) ∈ wsL_law := zr_19 _ (by decide +kernel)
theorem hk_X8_296 : ∀ w ∈ ([Cond.methodLink RX8 296 yX8_both1, Cond.instanceMethod yX8_both1, Cond.selects RX8 yX8_both1 yX8_both1, Cond.initialized RX8, Cond.code yX8_both1 cX8_both1 3 (some .int)] : List Cond), w ∈ wsL_law := List.forall_mem_cons.mpr ⟨zw_687, List.forall_mem_cons.mpr ⟨zw_688, List.forall_mem_cons.mpr ⟨zw_689, List.forall_mem_cons.mpr ⟨zw_525, List.forall_mem_cons.mpr ⟨zw_690, fun _ h => absurd h List.not_mem_nil⟩⟩⟩⟩⟩
theorem hd_X8_both1 : yX8_both1.cls = RX8 ∧ yX8_both1.cls ≠ "java/lang/invoke/MethodHandle" ∧ yX8_both1.cls ≠ "java/lang/invoke/VarHandle" ∧ (parseMethodDescriptor yX8_both1.desc).map (fun d => d.parameters.length) = some 0 := by decide +kernel
abbrev rmX8_either1 : Room := { frames := 34, cells := 0, slots := 0, locals := 769 }
def fX8_either1_j44 (this : Nat) (k5 : Int32 → zS → Option (Int32 × zS)) (s0 : Int32) (st : zS) : Option (Int32 × zS) :=
  k5 s0 st
def fX8_either1_j39 (this : Nat) (k5 : Int32 → zS → Option (Int32 × zS)) (st : zS) : Option (Int32 × zS) :=
  fX8_either1_j44 this k5 (1 : Int32) st
def fX8_either1_L5 (this : Nat) : Nat → Int32 → zS → Option (Int32 × zS)
  | 0, _, _ => none
  | n + 1, y1, st => (zok spM st (some this) 8).bind fun o7 => (fX8_isWord o7 (111 : Int32) (114 : Int32) (0 : Int32) (0 : Int32) (0 : Int32) (0 : Int32) (0 : Int32) (0 : Int32) st).bind fun q1 => if q1.1 = 0 then (some (y1, q1.2)) else ((zok spM q1.2 (some this) 8).bind fun o6 => (fX8_next o6 q1.2).bind fun q2 => (zok spM q2.2 (some this) 8).bind fun o5 => (fX8_both1 o5 q2.2).bind fun q3 => zlet (q3.1) fun v4 => if y1 = 0 then (if v4 = 0 then (fX8_either1_j44 this (fX8_either1_L5 this n) (0 : Int32) q3.2) else (fX8_either1_j39 this (fX8_either1_L5 this n) q3.2)) else (fX8_either1_j39 this (fX8_either1_L5 this n) q3.2))
def fX8_either1 (this : Nat) (st : zS) : Option (Int32 × zS) :=
  (zok spM st (some this) 8).bind fun o10 => (fX8_both1 o10 st).bind fun q8 => zlet (q8.1) fun v9 => fX8_either1_L5 this zF v9 q8.2
set_option maxRecDepth 100000 in
set_option maxHeartbeats 4000000 in
theorem kX8_either1 (l : Launch) (Z : zZ) (b : Nat) (x : Option Nat) (this : Nat) (st : zS) : zC l Z spM b x yX8_either1 (.code yX8_either1 cX8_either1 3 (some .int)) (rmX8_either1) rI [vP (some this)] st (fX8_either1 this st) := by
  refine z_start (own := RX8) rfl (by decide +kernel) (Nat.le_of_ble_eq_true rfl) rfl (fun p e s m args below meth c res Q A X hK hr hlocks hQ => ?_)
  have J5 : ∀ (n5 : Nat) (y1 : Int32) (st : zS), zs p l e (rmX8_either1) s m args below meth c Q Z spM b x A 3 0 0 res (fX8_either1_L5 this n5 y1 st) 5 [(0, vP (some this)), (1, vI y1)] [] st := by
    intro n5
    induction n5 with
    | zero => intros; exact z_none
    | succ n5 ih5 =>
      have J44 : ∀ (s0 : Int32) (st : zS), zs p l e (rmX8_either1) s m args below meth c Q Z spM b x A 3 0 0 res (fX8_either1_j44 this (fX8_either1_L5 this n5) s0 st) 44 [(0, vP (some this))] [vI s0] st := by
        intro s0 st
        rw [fX8_either1_j44]
        refine z_istore_n X dX8_either1_44 rfl (Nat.le_of_ble_eq_true rfl) rfl ?_
        refine z_goto X (tgt := 5) dX8_either1_45 (by decide) ?_
        exact z_sub [1, 0] (ih5 _ _) rfl
      have J39 : ∀ (st : zS), zs p l e (rmX8_either1) s m args below meth c Q Z spM b x A 3 0 0 res (fX8_either1_j39 this (fX8_either1_L5 this n5) st) 39 [(0, vP (some this))] [] st := by
        intro  st
        rw [fX8_either1_j39]
        refine z_iconst X (v := (1 : Int32)) dX8_either1_39 (by decide) ?_
        refine z_goto X (tgt := 44) dX8_either1_40 (by decide) ?_
        exact z_sub [0] (J44 _ _) rfl
      intro y1 st
      rw [fX8_either1_L5]
      refine z_aload_n X (q := 0) dX8_either1_5 rfl rfl ?_
      refine z_bipush X (v := (111 : Int32)) dX8_either1_6 (by decide) ?_
      refine z_bipush X (v := (114 : Int32)) dX8_either1_8 (by decide) ?_
      refine z_iconst X (v := (0 : Int32)) dX8_either1_10 (by decide) ?_
      refine z_iconst X (v := (0 : Int32)) dX8_either1_11 (by decide) ?_
      refine z_iconst X (v := (0 : Int32)) dX8_either1_12 (by decide) ?_
      refine z_iconst X (v := (0 : Int32)) dX8_either1_13 (by decide) ?_
      refine z_iconst X (v := (0 : Int32)) dX8_either1_14 (by decide) ?_
      refine z_iconst X (v := (0 : Int32)) dX8_either1_15 (by decide) ?_
      refine z_callV X hK (As := [vI (111 : Int32), vI (114 : Int32), vI (0 : Int32), vI (0 : Int32), vI (0 : Int32), vI (0 : Int32), vI (0 : Int32), vI (0 : Int32)]) (ci := 8) rfl (by decide) (fun o => (kX8_isWord l Z  b x o _ _ _ _ _ _ _ _ _)) hk_X8_175 ⟨rfl, rfl⟩ hd_X8_isWord ⟨Nat.le_of_ble_eq_true rfl, Nat.le_of_ble_eq_true rfl⟩ ⟨Nat.le_of_ble_eq_true rfl, Nat.le_of_ble_eq_true rfl⟩ rfl rfl (Nat.le_of_ble_eq_true rfl) dX8_either1_16 (fun _ q1 _ => ?_)
      refine z_if_eq X (tgt := 48) dX8_either1_19 (by decide) (fun _ => ?_) (fun _ => ?_)
      · refine z_iload_n X (q := 1) dX8_either1_48 rfl rfl ?_
        subst hQ; exact z_iret X hlocks hr dX8_either1_49
      · refine z_aload_n X (q := 0) dX8_either1_22 rfl rfl ?_
        refine z_callV X hK (As := []) (ci := 8) rfl (by decide) (fun o => (kX8_next l Z  b x o _)) hk_X8_172 ⟨rfl, rfl⟩ hd_X8_next ⟨Nat.le_of_ble_eq_true rfl, Nat.le_of_ble_eq_true rfl⟩ ⟨Nat.le_of_ble_eq_true rfl, Nat.le_of_ble_eq_true rfl⟩ rfl rfl (Nat.le_of_ble_eq_true rfl) dX8_either1_23 (fun _ q2 _ => ?_)
        refine z_aload_n X (q := 0) dX8_either1_26 rfl rfl ?_
        refine z_callV X hK (As := []) (ci := 8) rfl (by decide) (fun o => (kX8_both1 l Z  b x o _)) hk_X8_296 ⟨rfl, rfl⟩ hd_X8_both1 ⟨Nat.le_of_ble_eq_true rfl, Nat.le_of_ble_eq_true rfl⟩ ⟨Nat.le_of_ble_eq_true rfl, Nat.le_of_ble_eq_true rfl⟩ rfl rfl (Nat.le_of_ble_eq_true rfl) dX8_either1_27 (fun _ q3 _ => ?_)
        refine z_name (fun v4 => ?_)
        refine z_istore_n X dX8_either1_30 rfl (Nat.le_of_ble_eq_true rfl) rfl ?_
        refine z_iload_n X (q := 2) dX8_either1_31 rfl rfl ?_
        refine z_if_ne X (tgt := 39) dX8_either1_32 (by decide) (fun _ => ?_) (fun _ => ?_)
        · exact z_sub [1] (J39  _) rfl
        · refine z_iload_n X (q := 0) dX8_either1_35 rfl rfl ?_
          refine z_if_eq X (tgt := 43) dX8_either1_36 (by decide) (fun _ => ?_) (fun _ => ?_)
          · refine z_iconst X (v := (0 : Int32)) dX8_either1_43 (by decide) ?_
            exact z_sub [1] (J44 _ _) rfl
          · exact z_sub [1] (J39  _) rfl
  rw [fX8_either1]
  refine z_aload_n X (q := 0) dX8_either1_0 rfl rfl ?_
  refine z_callV X hK (As := []) (ci := 8) rfl (by decide) (fun o => (kX8_both1 l Z  b x o _)) hk_X8_296 ⟨rfl, rfl⟩ hd_X8_both1 ⟨Nat.le_of_ble_eq_true rfl, Nat.le_of_ble_eq_true rfl⟩ ⟨Nat.le_of_ble_eq_true rfl, Nat.le_of_ble_eq_true rfl⟩ rfl rfl (Nat.le_of_ble_eq_true rfl) dX8_either1_1 (fun _ q8 _ => ?_)
  refine z_name (fun v9 => ?_)
  refine z_istore_n X dX8_either1_4 rfl (Nat.le_of_ble_eq_true rfl) rfl ?_
  exact z_sub [1, 0] (J5 _ _ _) rfl
theorem zw_691 : Cond.methodLink RX8 299 yX8_either1 ∈ wsL_law := zr_19 _ (by decide +kernel)
theorem zw_692 : Cond.instanceMethod yX8_either1 ∈ wsL_law := zr_19 _ (by decide +kernel)
theorem zw_693 : Cond.selects RX8 yX8_either1 yX8_either1 ∈ wsL_law := zr_19 _ (by decide +kernel)
theorem zw_694 : Cond.code yX8_either1 cX8_either1 3 (some .int) ∈ wsL_law := zr_19 _ (by decide +kernel)
theorem hk_X8_299 : ∀ w ∈ ([Cond.methodLink RX8 299 yX8_either1, Cond.instanceMethod yX8_either1, Cond.selects RX8 yX8_either1 yX8_either1, Cond.initialized RX8, Cond.code yX8_either1 cX8_either1 3 (some .int)] : List Cond), w ∈ wsL_law := List.forall_mem_cons.mpr ⟨zw_691, List.forall_mem_cons.mpr ⟨zw_692, List.forall_mem_cons.mpr ⟨zw_693, List.forall_mem_cons.mpr ⟨zw_525, List.forall_mem_cons.mpr ⟨zw_694, fun _ h => absurd h List.not_mem_nil⟩⟩⟩⟩⟩
theorem hd_X8_either1 : yX8_either1.cls = RX8 ∧ yX8_either1.cls ≠ "java/lang/invoke/MethodHandle" ∧ yX8_either1.cls ≠ "java/lang/invoke/VarHandle" ∧ (parseMethodDescriptor yX8_either1.desc).map (fun d => d.parameters.length) = some 0 := by decide +kernel
abbrev rmX8_atom0 : Room := { frames := 35, cells := 0, slots := 0, locals := 791 }
def fX8_atom0_j71 (this : Nat) (y1 : Int32) (st : zS) : Option (Int32 × zS) :=
  (zok spM st (some this) 8).bind fun o1 => (zok spM st (some this) 8).bind fun o2 => zlet (zp st o2 25 ((st.2.1 o1 25) - (1 : Int32))) fun st3 => (zok spM st3 (some this) 8).bind fun o4 => if (st3.2.1 o4 26) = 0 then ((zok spM st3 (some this) 8).bind fun o6 => (fX8_next o6 st3).bind fun q5 => some (y1, q5.2)) else (some (y1, st3))
def fX8_atom0_j157 (this : Nat) (y1 : Int32) (st : zS) : Option (Int32 × zS) :=
  (zok spM st (some this) 8).bind fun o8 => (fX8_fail o8 st).bind fun q7 => some (y1, q7.2)
def fX8_atom0_j123 (this : Nat) (y1 : Int32) (st : zS) : Option (Int32 × zS) :=
  (zok spM st (some this) 8).bind fun o9 => if (st.2.1 o9 26) = 0 then ((zok spM st (some this) 8).bind fun o10 => if (st.2.1 o10 22) = (1 : Int32) then ((zok spM st (some this) 8).bind fun o16 => (fX8_name o16 st).bind fun q11 => zlet (q11.1) fun v12 => (zok spM q11.2 (some this) 8).bind fun o13 => if (q11.2.2.1 o13 26) = 0 then ((zok spM q11.2 (some this) 8).bind fun o15 => (fX8_next o15 q11.2).bind fun q14 => some (v12, q14.2)) else (some (v12, q11.2))) else (fX8_atom0_j157 this y1 st)) else (fX8_atom0_j157 this y1 st)
def fX8_atom0 (this : Nat) (st : zS) : Option (Int32 × zS) :=
  (zok spM st (some this) 8).bind fun o43 => (fX8_isSign o43 (45 : Int32) st).bind fun q17 => if q17.1 = 0 then ((zok spM q17.2 (some this) 8).bind fun o34 => (fX8_isSign o34 (40 : Int32) q17.2).bind fun q18 => if q18.1 = 0 then ((zok spM q18.2 (some this) 8).bind fun o19 => if (q18.2.2.1 o19 26) = 0 then ((zok spM q18.2 (some this) 8).bind fun o20 => if (q18.2.2.1 o20 22) = (2 : Int32) then ((zok spM q18.2 (some this) 8).bind fun o21 => zlet (((q18.2.2.2.1 o21).toInt32)) fun v22 => (zok spM q18.2 (some this) 8).bind fun o24 => (fX8_next o24 q18.2).bind fun q23 => some (v22, q23.2)) else (fX8_atom0_j123 this (0 : Int32) q18.2)) else (fX8_atom0_j123 this (0 : Int32) q18.2)) else ((zok spM q18.2 (some this) 8).bind fun o33 => (fX8_opens o33 q18.2).bind fun q25 => if q25.1 = 0 then (some ((0 : Int32), q25.2)) else ((zok spM q25.2 (some this) 8).bind fun o32 => (fX8_either1 o32 q25.2).bind fun q26 => zlet (q26.1) fun v27 => (zok spM q26.2 (some this) 8).bind fun o31 => (fX8_isSign o31 (41 : Int32) q26.2).bind fun q28 => if q28.1 = 0 then ((zok spM q28.2 (some this) 8).bind fun o30 => (fX8_fail o30 q28.2).bind fun q29 => fX8_atom0_j71 this v27 q29.2) else (fX8_atom0_j71 this v27 q28.2)))) else ((zok spM q17.2 (some this) 8).bind fun o42 => (fX8_opens o42 q17.2).bind fun q35 => if q35.1 = 0 then (some ((0 : Int32), q35.2)) else ((zok spM q35.2 (some this) 8).bind fun o41 => (fX8_atom1 o41 q35.2).bind fun q36 => zlet ((-q36.1)) fun v37 => (zok spM q36.2 (some this) 8).bind fun o38 => (zok spM q36.2 (some this) 8).bind fun o39 => zlet (zp q36.2 o39 25 ((q36.2.2.1 o38 25) - (1 : Int32))) fun st40 => some (v37, st40)))
set_option maxRecDepth 100000 in
set_option maxHeartbeats 4000000 in
theorem kX8_atom0 (l : Launch) (Z : zZ) (b : Nat) (x : Option Nat) (this : Nat) (st : zS) : zC l Z spM b x yX8_atom0 (.code yX8_atom0 cX8_atom0 2 (some .int)) (rmX8_atom0) rI [vP (some this)] st (fX8_atom0 this st) := by
  refine z_start (own := RX8) rfl (by decide +kernel) (Nat.le_of_ble_eq_true rfl) rfl (fun p e s m args below meth c res Q A X hK hr hlocks hQ => ?_)
  have J71 : ∀ (y1 : Int32) (st : zS), zs p l e (rmX8_atom0) s m args below meth c Q Z spM b x A 2 0 0 res (fX8_atom0_j71 this y1 st) 71 [(0, vP (some this)), (1, vI y1)] [] st := by
    intro y1 st
    rw [fX8_atom0_j71]
    refine z_aload_n X (q := 0) dX8_atom0_71 rfl rfl ?_
    refine z_dup X dX8_atom0_72 rfl ?_
    refine z_geti X hK (N := 46) (ci := 8) (k := 25) rfl (by decide) inlX8 (by decide) hf_X8_166 rfl spM_X8 rfl dX8_atom0_73 (fun o1 _ => ?_)
    refine z_iconst X (v := (1 : Int32)) dX8_atom0_76 (by decide) ?_
    refine z_isub X dX8_atom0_77 ?_
    refine z_puti X hK (N := 46) (ci := 8) (k := 25) rfl (by decide) inlX8 tyX8 tyX8_ok nmX8 (by decide) hf_X8_166 rfl rfl spM_X8 rfl (by decide +kernel) dX8_atom0_78 (fun o2 st3 _ => ?_)
    refine z_aload_n X (q := 0) dX8_atom0_81 rfl rfl ?_
    refine z_geti X hK (N := 46) (ci := 8) (k := 26) rfl (by decide) inlX8 (by decide) hf_X8_155 rfl spM_X8 rfl dX8_atom0_82 (fun o4 _ => ?_)
    refine z_if_ne X (tgt := 161) dX8_atom0_85 (by decide) (fun _ => ?_) (fun _ => ?_)
    · refine z_iload_n X (q := 1) dX8_atom0_161 rfl rfl ?_
      subst hQ; exact z_iret X hlocks hr dX8_atom0_162
    · refine z_aload_n X (q := 0) dX8_atom0_88 rfl rfl ?_
      refine z_callV X hK (As := []) (ci := 8) rfl (by decide) (fun o => (kX8_next l Z  b x o _)) hk_X8_172 ⟨rfl, rfl⟩ hd_X8_next ⟨Nat.le_of_ble_eq_true rfl, Nat.le_of_ble_eq_true rfl⟩ ⟨Nat.le_of_ble_eq_true rfl, Nat.le_of_ble_eq_true rfl⟩ rfl rfl (Nat.le_of_ble_eq_true rfl) dX8_atom0_89 (fun _ q5 _ => ?_)
      refine z_goto X (tgt := 161) dX8_atom0_92 (by decide) ?_
      refine z_iload_n X (q := 1) dX8_atom0_161 rfl rfl ?_
      subst hQ; exact z_iret X hlocks hr dX8_atom0_162
  have J157 : ∀ (y1 : Int32) (st : zS), zs p l e (rmX8_atom0) s m args below meth c Q Z spM b x A 2 0 0 res (fX8_atom0_j157 this y1 st) 157 [(0, vP (some this)), (1, vI y1)] [] st := by
    intro y1 st
    rw [fX8_atom0_j157]
    refine z_aload_n X (q := 0) dX8_atom0_157 rfl rfl ?_
    refine z_callV X hK (As := []) (ci := 8) rfl (by decide) (fun o => (kX8_fail l Z  b x o _)) hk_X8_169 ⟨rfl, rfl⟩ hd_X8_fail ⟨Nat.le_of_ble_eq_true rfl, Nat.le_of_ble_eq_true rfl⟩ ⟨Nat.le_of_ble_eq_true rfl, Nat.le_of_ble_eq_true rfl⟩ rfl rfl (Nat.le_of_ble_eq_true rfl) dX8_atom0_158 (fun _ q7 _ => ?_)
    refine z_iload_n X (q := 1) dX8_atom0_161 rfl rfl ?_
    subst hQ; exact z_iret X hlocks hr dX8_atom0_162
  have J123 : ∀ (y1 : Int32) (st : zS), zs p l e (rmX8_atom0) s m args below meth c Q Z spM b x A 2 0 0 res (fX8_atom0_j123 this y1 st) 123 [(0, vP (some this)), (1, vI y1)] [] st := by
    intro y1 st
    rw [fX8_atom0_j123]
    refine z_aload_n X (q := 0) dX8_atom0_123 rfl rfl ?_
    refine z_geti X hK (N := 46) (ci := 8) (k := 26) rfl (by decide) inlX8 (by decide) hf_X8_155 rfl spM_X8 rfl dX8_atom0_124 (fun o9 _ => ?_)
    refine z_if_ne X (tgt := 157) dX8_atom0_127 (by decide) (fun _ => ?_) (fun _ => ?_)
    · exact z_sub [0, 1] (J157 _ _) rfl
    · refine z_aload_n X (q := 0) dX8_atom0_130 rfl rfl ?_
      refine z_geti X hK (N := 46) (ci := 8) (k := 22) rfl (by decide) inlX8 (by decide) hf_X8_138 rfl spM_X8 rfl dX8_atom0_131 (fun o10 _ => ?_)
      refine z_iconst X (v := (1 : Int32)) dX8_atom0_134 (by decide) ?_
      refine z_icmp_ne X (tgt := 157) dX8_atom0_135 (by decide) (fun _ => ?_) (fun _ => ?_)
      · exact z_sub [0, 1] (J157 _ _) rfl
      · refine z_aload_n X (q := 0) dX8_atom0_138 rfl rfl ?_
        refine z_callV X hK (As := []) (ci := 8) rfl (by decide) (fun o => (kX8_name l Z  b x o _)) hk_X8_204 ⟨rfl, rfl⟩ hd_X8_name ⟨Nat.le_of_ble_eq_true rfl, Nat.le_of_ble_eq_true rfl⟩ ⟨Nat.le_of_ble_eq_true rfl, Nat.le_of_ble_eq_true rfl⟩ rfl rfl (Nat.le_of_ble_eq_true rfl) dX8_atom0_139 (fun _ q11 _ => ?_)
        refine z_name (fun v12 => ?_)
        refine z_istore_n X dX8_atom0_142 rfl (Nat.le_of_ble_eq_true rfl) rfl ?_
        refine z_aload_n X (q := 1) dX8_atom0_143 rfl rfl ?_
        refine z_geti X hK (N := 46) (ci := 8) (k := 26) rfl (by decide) inlX8 (by decide) hf_X8_155 rfl spM_X8 rfl dX8_atom0_144 (fun o13 _ => ?_)
        refine z_if_ne X (tgt := 161) dX8_atom0_147 (by decide) (fun _ => ?_) (fun _ => ?_)
        · refine z_iload_n X (q := 0) dX8_atom0_161 rfl rfl ?_
          subst hQ; exact z_iret X hlocks hr dX8_atom0_162
        · refine z_aload_n X (q := 1) dX8_atom0_150 rfl rfl ?_
          refine z_callV X hK (As := []) (ci := 8) rfl (by decide) (fun o => (kX8_next l Z  b x o _)) hk_X8_172 ⟨rfl, rfl⟩ hd_X8_next ⟨Nat.le_of_ble_eq_true rfl, Nat.le_of_ble_eq_true rfl⟩ ⟨Nat.le_of_ble_eq_true rfl, Nat.le_of_ble_eq_true rfl⟩ rfl rfl (Nat.le_of_ble_eq_true rfl) dX8_atom0_151 (fun _ q14 _ => ?_)
          refine z_goto X (tgt := 161) dX8_atom0_154 (by decide) ?_
          refine z_iload_n X (q := 0) dX8_atom0_161 rfl rfl ?_
          subst hQ; exact z_iret X hlocks hr dX8_atom0_162
  rw [fX8_atom0]
  refine z_iconst X (v := (0 : Int32)) dX8_atom0_0 (by decide) ?_
  refine z_istore_n X dX8_atom0_1 rfl (Nat.le_of_ble_eq_true rfl) rfl ?_
  refine z_aload_n X (q := 1) dX8_atom0_2 rfl rfl ?_
  refine z_bipush X (v := (45 : Int32)) dX8_atom0_3 (by decide) ?_
  refine z_callV X hK (As := [vI (45 : Int32)]) (ci := 8) rfl (by decide) (fun o => (kX8_isSign l Z  b x o _ _)) hk_X8_197 ⟨rfl, rfl⟩ hd_X8_isSign ⟨Nat.le_of_ble_eq_true rfl, Nat.le_of_ble_eq_true rfl⟩ ⟨Nat.le_of_ble_eq_true rfl, Nat.le_of_ble_eq_true rfl⟩ rfl rfl (Nat.le_of_ble_eq_true rfl) dX8_atom0_5 (fun _ q17 _ => ?_)
  refine z_if_eq X (tgt := 37) dX8_atom0_8 (by decide) (fun _ => ?_) (fun _ => ?_)
  · refine z_aload_n X (q := 1) dX8_atom0_37 rfl rfl ?_
    refine z_bipush X (v := (40 : Int32)) dX8_atom0_38 (by decide) ?_
    refine z_callV X hK (As := [vI (40 : Int32)]) (ci := 8) rfl (by decide) (fun o => (kX8_isSign l Z  b x o _ _)) hk_X8_197 ⟨rfl, rfl⟩ hd_X8_isSign ⟨Nat.le_of_ble_eq_true rfl, Nat.le_of_ble_eq_true rfl⟩ ⟨Nat.le_of_ble_eq_true rfl, Nat.le_of_ble_eq_true rfl⟩ rfl rfl (Nat.le_of_ble_eq_true rfl) dX8_atom0_40 (fun _ q18 _ => ?_)
    refine z_if_eq X (tgt := 95) dX8_atom0_43 (by decide) (fun _ => ?_) (fun _ => ?_)
    · refine z_aload_n X (q := 1) dX8_atom0_95 rfl rfl ?_
      refine z_geti X hK (N := 46) (ci := 8) (k := 26) rfl (by decide) inlX8 (by decide) hf_X8_155 rfl spM_X8 rfl dX8_atom0_96 (fun o19 _ => ?_)
      refine z_if_ne X (tgt := 123) dX8_atom0_99 (by decide) (fun _ => ?_) (fun _ => ?_)
      · exact z_sub [1, 0] (J123 _ _) rfl
      · refine z_aload_n X (q := 1) dX8_atom0_102 rfl rfl ?_
        refine z_geti X hK (N := 46) (ci := 8) (k := 22) rfl (by decide) inlX8 (by decide) hf_X8_138 rfl spM_X8 rfl dX8_atom0_103 (fun o20 _ => ?_)
        refine z_iconst X (v := (2 : Int32)) dX8_atom0_106 (by decide) ?_
        refine z_icmp_ne X (tgt := 123) dX8_atom0_107 (by decide) (fun _ => ?_) (fun _ => ?_)
        · exact z_sub [1, 0] (J123 _ _) rfl
        · refine z_aload_n X (q := 1) dX8_atom0_110 rfl rfl ?_
          refine z_getl X hK (N := 46) (ci := 8) (k := 24) rfl (by decide) inlX8 (by decide) hf_X8_149 rfl spM_X8 rfl dX8_atom0_111 (fun o21 _ => ?_)
          refine z_l2i X dX8_atom0_114 ?_
          refine z_name (fun v22 => ?_)
          refine z_istore_n X dX8_atom0_115 rfl (Nat.le_of_ble_eq_true rfl) rfl ?_
          refine z_aload_n X (q := 1) dX8_atom0_116 rfl rfl ?_
          refine z_callV X hK (As := []) (ci := 8) rfl (by decide) (fun o => (kX8_next l Z  b x o _)) hk_X8_172 ⟨rfl, rfl⟩ hd_X8_next ⟨Nat.le_of_ble_eq_true rfl, Nat.le_of_ble_eq_true rfl⟩ ⟨Nat.le_of_ble_eq_true rfl, Nat.le_of_ble_eq_true rfl⟩ rfl rfl (Nat.le_of_ble_eq_true rfl) dX8_atom0_117 (fun _ q23 _ => ?_)
          refine z_goto X (tgt := 161) dX8_atom0_120 (by decide) ?_
          refine z_iload_n X (q := 0) dX8_atom0_161 rfl rfl ?_
          subst hQ; exact z_iret X hlocks hr dX8_atom0_162
    · refine z_aload_n X (q := 1) dX8_atom0_46 rfl rfl ?_
      refine z_callV X hK (As := []) (ci := 8) rfl (by decide) (fun o => (kX8_opens l Z  b x o _)) hk_X8_200 ⟨rfl, rfl⟩ hd_X8_opens ⟨Nat.le_of_ble_eq_true rfl, Nat.le_of_ble_eq_true rfl⟩ ⟨Nat.le_of_ble_eq_true rfl, Nat.le_of_ble_eq_true rfl⟩ rfl rfl (Nat.le_of_ble_eq_true rfl) dX8_atom0_47 (fun _ q25 _ => ?_)
      refine z_if_eq X (tgt := 161) dX8_atom0_50 (by decide) (fun _ => ?_) (fun _ => ?_)
      · refine z_iload_n X (q := 0) dX8_atom0_161 rfl rfl ?_
        subst hQ; exact z_iret X hlocks hr dX8_atom0_162
      · refine z_aload_n X (q := 1) dX8_atom0_53 rfl rfl ?_
        refine z_callV X hK (As := []) (ci := 8) rfl (by decide) (fun o => (kX8_either1 l Z  b x o _)) hk_X8_299 ⟨rfl, rfl⟩ hd_X8_either1 ⟨Nat.le_of_ble_eq_true rfl, Nat.le_of_ble_eq_true rfl⟩ ⟨Nat.le_of_ble_eq_true rfl, Nat.le_of_ble_eq_true rfl⟩ rfl rfl (Nat.le_of_ble_eq_true rfl) dX8_atom0_54 (fun _ q26 _ => ?_)
        refine z_name (fun v27 => ?_)
        refine z_istore_n X dX8_atom0_57 rfl (Nat.le_of_ble_eq_true rfl) rfl ?_
        refine z_aload_n X (q := 1) dX8_atom0_58 rfl rfl ?_
        refine z_bipush X (v := (41 : Int32)) dX8_atom0_59 (by decide) ?_
        refine z_callV X hK (As := [vI (41 : Int32)]) (ci := 8) rfl (by decide) (fun o => (kX8_isSign l Z  b x o _ _)) hk_X8_197 ⟨rfl, rfl⟩ hd_X8_isSign ⟨Nat.le_of_ble_eq_true rfl, Nat.le_of_ble_eq_true rfl⟩ ⟨Nat.le_of_ble_eq_true rfl, Nat.le_of_ble_eq_true rfl⟩ rfl rfl (Nat.le_of_ble_eq_true rfl) dX8_atom0_61 (fun _ q28 _ => ?_)
        refine z_if_ne X (tgt := 71) dX8_atom0_64 (by decide) (fun _ => ?_) (fun _ => ?_)
        · exact z_sub [1, 0] (J71 _ _) rfl
        · refine z_aload_n X (q := 1) dX8_atom0_67 rfl rfl ?_
          refine z_callV X hK (As := []) (ci := 8) rfl (by decide) (fun o => (kX8_fail l Z  b x o _)) hk_X8_169 ⟨rfl, rfl⟩ hd_X8_fail ⟨Nat.le_of_ble_eq_true rfl, Nat.le_of_ble_eq_true rfl⟩ ⟨Nat.le_of_ble_eq_true rfl, Nat.le_of_ble_eq_true rfl⟩ rfl rfl (Nat.le_of_ble_eq_true rfl) dX8_atom0_68 (fun _ q29 _ => ?_)
          exact z_sub [1, 0] (J71 _ _) rfl
  · refine z_aload_n X (q := 1) dX8_atom0_11 rfl rfl ?_
    refine z_callV X hK (As := []) (ci := 8) rfl (by decide) (fun o => (kX8_opens l Z  b x o _)) hk_X8_200 ⟨rfl, rfl⟩ hd_X8_opens ⟨Nat.le_of_ble_eq_true rfl, Nat.le_of_ble_eq_true rfl⟩ ⟨Nat.le_of_ble_eq_true rfl, Nat.le_of_ble_eq_true rfl⟩ rfl rfl (Nat.le_of_ble_eq_true rfl) dX8_atom0_12 (fun _ q35 _ => ?_)
    refine z_if_eq X (tgt := 161) dX8_atom0_15 (by decide) (fun _ => ?_) (fun _ => ?_)
    · refine z_iload_n X (q := 0) dX8_atom0_161 rfl rfl ?_
      subst hQ; exact z_iret X hlocks hr dX8_atom0_162
    · refine z_aload_n X (q := 1) dX8_atom0_18 rfl rfl ?_
      refine z_callV X hK (As := []) (ci := 8) rfl (by decide) (fun o => (kX8_atom1 l Z  b x o _)) hk_X8_284 ⟨rfl, rfl⟩ hd_X8_atom1 ⟨Nat.le_of_ble_eq_true rfl, Nat.le_of_ble_eq_true rfl⟩ ⟨Nat.le_of_ble_eq_true rfl, Nat.le_of_ble_eq_true rfl⟩ rfl rfl (Nat.le_of_ble_eq_true rfl) dX8_atom0_19 (fun _ q36 _ => ?_)
      refine z_ineg X dX8_atom0_22 ?_
      refine z_name (fun v37 => ?_)
      refine z_istore_n X dX8_atom0_23 rfl (Nat.le_of_ble_eq_true rfl) rfl ?_
      refine z_aload_n X (q := 1) dX8_atom0_24 rfl rfl ?_
      refine z_dup X dX8_atom0_25 rfl ?_
      refine z_geti X hK (N := 46) (ci := 8) (k := 25) rfl (by decide) inlX8 (by decide) hf_X8_166 rfl spM_X8 rfl dX8_atom0_26 (fun o38 _ => ?_)
      refine z_iconst X (v := (1 : Int32)) dX8_atom0_29 (by decide) ?_
      refine z_isub X dX8_atom0_30 ?_
      refine z_puti X hK (N := 46) (ci := 8) (k := 25) rfl (by decide) inlX8 tyX8 tyX8_ok nmX8 (by decide) hf_X8_166 rfl rfl spM_X8 rfl (by decide +kernel) dX8_atom0_31 (fun o39 st40 _ => ?_)
      refine z_goto X (tgt := 161) dX8_atom0_34 (by decide) ?_
      refine z_iload_n X (q := 0) dX8_atom0_161 rfl rfl ?_
      subst hQ; exact z_iret X hlocks hr dX8_atom0_162
theorem zw_695 : Cond.methodLink RX8 302 yX8_atom0 ∈ wsL_law := zr_19 _ (by decide +kernel)
theorem zw_696 : Cond.instanceMethod yX8_atom0 ∈ wsL_law := zr_19 _ (by decide +kernel)
theorem zw_697 : Cond.selects RX8 yX8_atom0 yX8_atom0 ∈ wsL_law := zr_19 _ (by decide +kernel)
theorem zw_698 : Cond.code yX8_atom0 cX8_atom0 2 (some .int) ∈ wsL_law := zr_19 _ (by decide +kernel)
theorem hk_X8_302 : ∀ w ∈ ([Cond.methodLink RX8 302 yX8_atom0, Cond.instanceMethod yX8_atom0, Cond.selects RX8 yX8_atom0 yX8_atom0, Cond.initialized RX8, Cond.code yX8_atom0 cX8_atom0 2 (some .int)] : List Cond), w ∈ wsL_law := List.forall_mem_cons.mpr ⟨zw_695, List.forall_mem_cons.mpr ⟨zw_696, List.forall_mem_cons.mpr ⟨zw_697, List.forall_mem_cons.mpr ⟨zw_525, List.forall_mem_cons.mpr ⟨zw_698, fun _ h => absurd h List.not_mem_nil⟩⟩⟩⟩⟩
theorem hd_X8_atom0 : yX8_atom0.cls = RX8 ∧ yX8_atom0.cls ≠ "java/lang/invoke/MethodHandle" ∧ yX8_atom0.cls ≠ "java/lang/invoke/VarHandle" ∧ (parseMethodDescriptor yX8_atom0.desc).map (fun d => d.parameters.length) = some 0 := by decide +kernel
abbrev rmX8_term0 : Room := { frames := 36, cells := 0, slots := 0, locals := 812 }
def fX8_term0_L5 (this : Nat) : Nat → Int32 → zS → Option (Int32 × zS)
  | 0, _, _ => none
  | n + 1, y1, st => (zok spM st (some this) 8).bind fun o7 => (fX8_isSign o7 (42 : Int32) st).bind fun q1 => if q1.1 = 0 then (some (y1, q1.2)) else ((zok spM q1.2 (some this) 8).bind fun o6 => (fX8_next o6 q1.2).bind fun q2 => (zok spM q2.2 (some this) 8).bind fun o5 => (fX8_atom0 o5 q2.2).bind fun q3 => zlet ((y1 * q3.1)) fun v4 => (fX8_term0_L5 this n) v4 q3.2)
def fX8_term0 (this : Nat) (st : zS) : Option (Int32 × zS) :=
  (zok spM st (some this) 8).bind fun o10 => (fX8_atom0 o10 st).bind fun q8 => zlet (q8.1) fun v9 => fX8_term0_L5 this zF v9 q8.2
set_option maxRecDepth 100000 in
set_option maxHeartbeats 4000000 in
theorem kX8_term0 (l : Launch) (Z : zZ) (b : Nat) (x : Option Nat) (this : Nat) (st : zS) : zC l Z spM b x yX8_term0 (.code yX8_term0 cX8_term0 2 (some .int)) (rmX8_term0) rI [vP (some this)] st (fX8_term0 this st) := by
  refine z_start (own := RX8) rfl (by decide +kernel) (Nat.le_of_ble_eq_true rfl) rfl (fun p e s m args below meth c res Q A X hK hr hlocks hQ => ?_)
  have J5 : ∀ (n5 : Nat) (y1 : Int32) (st : zS), zs p l e (rmX8_term0) s m args below meth c Q Z spM b x A 2 0 0 res (fX8_term0_L5 this n5 y1 st) 5 [(0, vP (some this)), (1, vI y1)] [] st := by
    intro n5
    induction n5 with
    | zero => intros; exact z_none
    | succ n5 ih5 =>
      intro y1 st
      rw [fX8_term0_L5]
      refine z_aload_n X (q := 0) dX8_term0_5 rfl rfl ?_
      refine z_bipush X (v := (42 : Int32)) dX8_term0_6 (by decide) ?_
      refine z_callV X hK (As := [vI (42 : Int32)]) (ci := 8) rfl (by decide) (fun o => (kX8_isSign l Z  b x o _ _)) hk_X8_197 ⟨rfl, rfl⟩ hd_X8_isSign ⟨Nat.le_of_ble_eq_true rfl, Nat.le_of_ble_eq_true rfl⟩ ⟨Nat.le_of_ble_eq_true rfl, Nat.le_of_ble_eq_true rfl⟩ rfl rfl (Nat.le_of_ble_eq_true rfl) dX8_term0_8 (fun _ q1 _ => ?_)
      refine z_if_eq X (tgt := 28) dX8_term0_11 (by decide) (fun _ => ?_) (fun _ => ?_)
      · refine z_iload_n X (q := 1) dX8_term0_28 rfl rfl ?_
        subst hQ; exact z_iret X hlocks hr dX8_term0_29
      · refine z_aload_n X (q := 0) dX8_term0_14 rfl rfl ?_
        refine z_callV X hK (As := []) (ci := 8) rfl (by decide) (fun o => (kX8_next l Z  b x o _)) hk_X8_172 ⟨rfl, rfl⟩ hd_X8_next ⟨Nat.le_of_ble_eq_true rfl, Nat.le_of_ble_eq_true rfl⟩ ⟨Nat.le_of_ble_eq_true rfl, Nat.le_of_ble_eq_true rfl⟩ rfl rfl (Nat.le_of_ble_eq_true rfl) dX8_term0_15 (fun _ q2 _ => ?_)
        refine z_iload_n X (q := 1) dX8_term0_18 rfl rfl ?_
        refine z_aload_n X (q := 0) dX8_term0_19 rfl rfl ?_
        refine z_callV X hK (As := []) (ci := 8) rfl (by decide) (fun o => (kX8_atom0 l Z  b x o _)) hk_X8_302 ⟨rfl, rfl⟩ hd_X8_atom0 ⟨Nat.le_of_ble_eq_true rfl, Nat.le_of_ble_eq_true rfl⟩ ⟨Nat.le_of_ble_eq_true rfl, Nat.le_of_ble_eq_true rfl⟩ rfl rfl (Nat.le_of_ble_eq_true rfl) dX8_term0_20 (fun _ q3 _ => ?_)
        refine z_imul X dX8_term0_23 ?_
        refine z_name (fun v4 => ?_)
        refine z_istore_n X dX8_term0_24 rfl (Nat.le_of_ble_eq_true rfl) rfl ?_
        refine z_goto X (tgt := 5) dX8_term0_25 (by decide) ?_
        exact z_sub [1, 0] (ih5 _ _) rfl
  rw [fX8_term0]
  refine z_aload_n X (q := 0) dX8_term0_0 rfl rfl ?_
  refine z_callV X hK (As := []) (ci := 8) rfl (by decide) (fun o => (kX8_atom0 l Z  b x o _)) hk_X8_302 ⟨rfl, rfl⟩ hd_X8_atom0 ⟨Nat.le_of_ble_eq_true rfl, Nat.le_of_ble_eq_true rfl⟩ ⟨Nat.le_of_ble_eq_true rfl, Nat.le_of_ble_eq_true rfl⟩ rfl rfl (Nat.le_of_ble_eq_true rfl) dX8_term0_1 (fun _ q8 _ => ?_)
  refine z_name (fun v9 => ?_)
  refine z_istore_n X dX8_term0_4 rfl (Nat.le_of_ble_eq_true rfl) rfl ?_
  exact z_sub [1, 0] (J5 _ _ _) rfl
theorem zw_699 : Cond.methodLink RX8 305 yX8_term0 ∈ wsL_law := zr_18 _ (by decide +kernel)
theorem zw_700 : Cond.instanceMethod yX8_term0 ∈ wsL_law := zr_18 _ (by decide +kernel)
theorem zw_701 : Cond.selects RX8 yX8_term0 yX8_term0 ∈ wsL_law := zr_18 _ (by decide +kernel)
theorem zw_702 : Cond.code yX8_term0 cX8_term0 2 (some .int) ∈ wsL_law := zr_19 _ (by decide +kernel)
theorem hk_X8_305 : ∀ w ∈ ([Cond.methodLink RX8 305 yX8_term0, Cond.instanceMethod yX8_term0, Cond.selects RX8 yX8_term0 yX8_term0, Cond.initialized RX8, Cond.code yX8_term0 cX8_term0 2 (some .int)] : List Cond), w ∈ wsL_law := List.forall_mem_cons.mpr ⟨zw_699, List.forall_mem_cons.mpr ⟨zw_700, List.forall_mem_cons.mpr ⟨zw_701, List.forall_mem_cons.mpr ⟨zw_525, List.forall_mem_cons.mpr ⟨zw_702, fun _ h => absurd h List.not_mem_nil⟩⟩⟩⟩⟩
theorem hd_X8_term0 : yX8_term0.cls = RX8 ∧ yX8_term0.cls ≠ "java/lang/invoke/MethodHandle" ∧ yX8_term0.cls ≠ "java/lang/invoke/VarHandle" ∧ (parseMethodDescriptor yX8_term0.desc).map (fun d => d.parameters.length) = some 0 := by decide +kernel
abbrev rmX8_added0 : Room := { frames := 37, cells := 0, slots := 0, locals := 833 }
def fX8_added0_j62 (this : Nat) (k5 : Int32 → zS → Option (Int32 × zS)) (s0 : Int32) (st : zS) : Option (Int32 × zS) :=
  k5 s0 st
def fX8_added0_j39 (this : Nat) (k5 : Int32 → zS → Option (Int32 × zS)) (y1 : Int32) (s0 : Int32) (st : zS) : Option (Int32 × zS) :=
  (zok spM st (some this) 8).bind fun o5 => (fX8_next o5 st).bind fun q1 => (zok spM q1.2 (some this) 8).bind fun o4 => (fX8_term0 o4 q1.2).bind fun q2 => zlet (q2.1) fun v3 => if s0 = 0 then (fX8_added0_j62 this k5 (y1 - v3) q2.2) else (fX8_added0_j62 this k5 (y1 + v3) q2.2)
def fX8_added0_j23 (this : Nat) (k5 : Int32 → zS → Option (Int32 × zS)) (y1 : Int32) (st : zS) : Option (Int32 × zS) :=
  (zok spM st (some this) 8).bind fun o6 => if (lg_cmp (st.2.2.1 o6) (43 : Int64)) = 0 then (fX8_added0_j39 this k5 y1 (1 : Int32) st) else (fX8_added0_j39 this k5 y1 (0 : Int32) st)
def fX8_added0_L5 (this : Nat) : Nat → Int32 → zS → Option (Int32 × zS)
  | 0, _, _ => none
  | n + 1, y1, st => (zok spM st (some this) 8).bind fun o10 => (fX8_isSign o10 (43 : Int32) st).bind fun q7 => if q7.1 = 0 then ((zok spM q7.2 (some this) 8).bind fun o9 => (fX8_isSign o9 (45 : Int32) q7.2).bind fun q8 => if q8.1 = 0 then (some (y1, q8.2)) else (fX8_added0_j23 this (fX8_added0_L5 this n) y1 q8.2)) else (fX8_added0_j23 this (fX8_added0_L5 this n) y1 q7.2)
def fX8_added0 (this : Nat) (st : zS) : Option (Int32 × zS) :=
  (zok spM st (some this) 8).bind fun o13 => (fX8_term0 o13 st).bind fun q11 => zlet (q11.1) fun v12 => fX8_added0_L5 this zF v12 q11.2
set_option maxRecDepth 100000 in
set_option maxHeartbeats 4000000 in
theorem kX8_added0 (l : Launch) (Z : zZ) (b : Nat) (x : Option Nat) (this : Nat) (st : zS) : zC l Z spM b x yX8_added0 (.code yX8_added0 cX8_added0 4 (some .int)) (rmX8_added0) rI [vP (some this)] st (fX8_added0 this st) := by
  refine z_start (own := RX8) rfl (by decide +kernel) (Nat.le_of_ble_eq_true rfl) rfl (fun p e s m args below meth c res Q A X hK hr hlocks hQ => ?_)
  have J5 : ∀ (n5 : Nat) (y1 : Int32) (st : zS), zs p l e (rmX8_added0) s m args below meth c Q Z spM b x A 4 0 0 res (fX8_added0_L5 this n5 y1 st) 5 [(0, vP (some this)), (1, vI y1)] [] st := by
    intro n5
    induction n5 with
    | zero => intros; exact z_none
    | succ n5 ih5 =>
      have J62 : ∀ (s0 : Int32) (st : zS), zs p l e (rmX8_added0) s m args below meth c Q Z spM b x A 4 0 0 res (fX8_added0_j62 this (fX8_added0_L5 this n5) s0 st) 62 [(0, vP (some this))] [vI s0] st := by
        intro s0 st
        rw [fX8_added0_j62]
        refine z_istore_n X dX8_added0_62 rfl (Nat.le_of_ble_eq_true rfl) rfl ?_
        refine z_goto X (tgt := 5) dX8_added0_63 (by decide) ?_
        exact z_sub [1, 0] (ih5 _ _) rfl
      have J39 : ∀ (y1 : Int32) (s0 : Int32) (st : zS), zs p l e (rmX8_added0) s m args below meth c Q Z spM b x A 4 0 0 res (fX8_added0_j39 this (fX8_added0_L5 this n5) y1 s0 st) 39 [(0, vP (some this)), (1, vI y1)] [vI s0] st := by
        intro y1 s0 st
        rw [fX8_added0_j39]
        refine z_istore_n X dX8_added0_39 rfl (Nat.le_of_ble_eq_true rfl) rfl ?_
        refine z_aload_n X (q := 1) dX8_added0_40 rfl rfl ?_
        refine z_callV X hK (As := []) (ci := 8) rfl (by decide) (fun o => (kX8_next l Z  b x o _)) hk_X8_172 ⟨rfl, rfl⟩ hd_X8_next ⟨Nat.le_of_ble_eq_true rfl, Nat.le_of_ble_eq_true rfl⟩ ⟨Nat.le_of_ble_eq_true rfl, Nat.le_of_ble_eq_true rfl⟩ rfl rfl (Nat.le_of_ble_eq_true rfl) dX8_added0_41 (fun _ q1 _ => ?_)
        refine z_aload_n X (q := 1) dX8_added0_44 rfl rfl ?_
        refine z_callV X hK (As := []) (ci := 8) rfl (by decide) (fun o => (kX8_term0 l Z  b x o _)) hk_X8_305 ⟨rfl, rfl⟩ hd_X8_term0 ⟨Nat.le_of_ble_eq_true rfl, Nat.le_of_ble_eq_true rfl⟩ ⟨Nat.le_of_ble_eq_true rfl, Nat.le_of_ble_eq_true rfl⟩ rfl rfl (Nat.le_of_ble_eq_true rfl) dX8_added0_45 (fun _ q2 _ => ?_)
        refine z_name (fun v3 => ?_)
        refine z_istore_n X dX8_added0_48 rfl (Nat.le_of_ble_eq_true rfl) rfl ?_
        refine z_iload_n X (q := 1) dX8_added0_49 rfl rfl ?_
        refine z_if_eq X (tgt := 59) dX8_added0_50 (by decide) (fun _ => ?_) (fun _ => ?_)
        · refine z_iload_n X (q := 3) dX8_added0_59 rfl rfl ?_
          refine z_iload_n X (q := 0) dX8_added0_60 rfl rfl ?_
          refine z_isub X dX8_added0_61 ?_
          exact z_sub [2] (J62 _ _) rfl
        · refine z_iload_n X (q := 3) dX8_added0_53 rfl rfl ?_
          refine z_iload_n X (q := 0) dX8_added0_54 rfl rfl ?_
          refine z_iadd X dX8_added0_55 ?_
          refine z_goto X (tgt := 62) dX8_added0_56 (by decide) ?_
          exact z_sub [2] (J62 _ _) rfl
      have J23 : ∀ (y1 : Int32) (st : zS), zs p l e (rmX8_added0) s m args below meth c Q Z spM b x A 4 0 0 res (fX8_added0_j23 this (fX8_added0_L5 this n5) y1 st) 23 [(0, vP (some this)), (1, vI y1)] [] st := by
        intro y1 st
        rw [fX8_added0_j23]
        refine z_aload_n X (q := 0) dX8_added0_23 rfl rfl ?_
        refine z_getl X hK (N := 46) (ci := 8) (k := 24) rfl (by decide) inlX8 (by decide) hf_X8_149 rfl spM_X8 rfl dX8_added0_24 (fun o6 _ => ?_)
        refine z_ldc2 X (v := (43 : Int64)) (hc_X8_214) dX8_added0_27 ?_
        refine z_lcmp X dX8_added0_30 ?_
        refine z_if_ne X (tgt := 38) dX8_added0_31 (by decide) (fun _ => ?_) (fun _ => ?_)
        · refine z_iconst X (v := (0 : Int32)) dX8_added0_38 (by decide) ?_
          exact z_sub [0, 1] (J39 _ _ _) rfl
        · refine z_iconst X (v := (1 : Int32)) dX8_added0_34 (by decide) ?_
          refine z_goto X (tgt := 39) dX8_added0_35 (by decide) ?_
          exact z_sub [0, 1] (J39 _ _ _) rfl
      intro y1 st
      rw [fX8_added0_L5]
      refine z_aload_n X (q := 0) dX8_added0_5 rfl rfl ?_
      refine z_bipush X (v := (43 : Int32)) dX8_added0_6 (by decide) ?_
      refine z_callV X hK (As := [vI (43 : Int32)]) (ci := 8) rfl (by decide) (fun o => (kX8_isSign l Z  b x o _ _)) hk_X8_197 ⟨rfl, rfl⟩ hd_X8_isSign ⟨Nat.le_of_ble_eq_true rfl, Nat.le_of_ble_eq_true rfl⟩ ⟨Nat.le_of_ble_eq_true rfl, Nat.le_of_ble_eq_true rfl⟩ rfl rfl (Nat.le_of_ble_eq_true rfl) dX8_added0_8 (fun _ q7 _ => ?_)
      refine z_if_ne X (tgt := 23) dX8_added0_11 (by decide) (fun _ => ?_) (fun _ => ?_)
      · exact z_sub [0, 1] (J23 _ _) rfl
      · refine z_aload_n X (q := 0) dX8_added0_14 rfl rfl ?_
        refine z_bipush X (v := (45 : Int32)) dX8_added0_15 (by decide) ?_
        refine z_callV X hK (As := [vI (45 : Int32)]) (ci := 8) rfl (by decide) (fun o => (kX8_isSign l Z  b x o _ _)) hk_X8_197 ⟨rfl, rfl⟩ hd_X8_isSign ⟨Nat.le_of_ble_eq_true rfl, Nat.le_of_ble_eq_true rfl⟩ ⟨Nat.le_of_ble_eq_true rfl, Nat.le_of_ble_eq_true rfl⟩ rfl rfl (Nat.le_of_ble_eq_true rfl) dX8_added0_17 (fun _ q8 _ => ?_)
        refine z_if_eq X (tgt := 66) dX8_added0_20 (by decide) (fun _ => ?_) (fun _ => ?_)
        · refine z_iload_n X (q := 1) dX8_added0_66 rfl rfl ?_
          subst hQ; exact z_iret X hlocks hr dX8_added0_67
        · exact z_sub [0, 1] (J23 _ _) rfl
  rw [fX8_added0]
  refine z_aload_n X (q := 0) dX8_added0_0 rfl rfl ?_
  refine z_callV X hK (As := []) (ci := 8) rfl (by decide) (fun o => (kX8_term0 l Z  b x o _)) hk_X8_305 ⟨rfl, rfl⟩ hd_X8_term0 ⟨Nat.le_of_ble_eq_true rfl, Nat.le_of_ble_eq_true rfl⟩ ⟨Nat.le_of_ble_eq_true rfl, Nat.le_of_ble_eq_true rfl⟩ rfl rfl (Nat.le_of_ble_eq_true rfl) dX8_added0_1 (fun _ q11 _ => ?_)
  refine z_name (fun v12 => ?_)
  refine z_istore_n X dX8_added0_4 rfl (Nat.le_of_ble_eq_true rfl) rfl ?_
  exact z_sub [1, 0] (J5 _ _ _) rfl
abbrev rmX8_bitsOf : Room := { frames := 1, cells := 0, slots := 0, locals := 40 }
def fX8_bitsOf_L4 : Nat → Int32 → Int32 → zS → Option (Int32 × zS)
  | 0, _, _, _ => none
  | n + 1, y1, y2, st => if y2 = 0 then (some (y1, st)) else (zlet ((y2 &&& (y2 - (1 : Int32)))) fun v1 => (fX8_bitsOf_L4 n) (y1 + (1 : Int32)) v1 st)
def fX8_bitsOf (a0 : Int32) (st : zS) : Option (Int32 × zS) :=
  fX8_bitsOf_L4 zF (0 : Int32) a0 st
set_option maxRecDepth 100000 in
set_option maxHeartbeats 4000000 in
theorem kX8_bitsOf (l : Launch) (Z : zZ) (b : Nat) (x : Option Nat) (a0 : Int32) (st : zS) : zC l Z spM b x yX8_bitsOf (.code yX8_bitsOf cX8_bitsOf 3 (some .int)) (rmX8_bitsOf) rI [vI a0] st (fX8_bitsOf a0 st) := by
  refine z_start (own := RX8) rfl (by decide +kernel) (Nat.le_of_ble_eq_true rfl) rfl (fun p e s m args below meth c res Q A X hK hr hlocks hQ => ?_)
  have J4 : ∀ (n4 : Nat) (y1 : Int32) (y2 : Int32) (st : zS), zs p l e (rmX8_bitsOf) s m args below meth c Q Z spM b x A 3 0 0 res (fX8_bitsOf_L4 n4 y1 y2 st) 4 [(1, vI y1), (2, vI y2)] [] st := by
    intro n4
    induction n4 with
    | zero => intros; exact z_none
    | succ n4 ih4 =>
      intro y1 y2 st
      rw [fX8_bitsOf_L4]
      refine z_iload_n X (q := 1) dX8_bitsOf_4 rfl rfl ?_
      refine z_if_eq X (tgt := 20) dX8_bitsOf_5 (by decide) (fun _ => ?_) (fun _ => ?_)
      · refine z_iload_n X (q := 0) dX8_bitsOf_20 rfl rfl ?_
        subst hQ; exact z_iret X hlocks hr dX8_bitsOf_21
      · refine z_iinc X (q := 0) (y := y1 + (1 : Int32)) dX8_bitsOf_8 rfl rfl (Nat.le_of_ble_eq_true rfl) rfl ?_
        refine z_iload_n X (q := 1) dX8_bitsOf_11 rfl rfl ?_
        refine z_iload_n X (q := 1) dX8_bitsOf_12 rfl rfl ?_
        refine z_iconst X (v := (1 : Int32)) dX8_bitsOf_13 (by decide) ?_
        refine z_isub X dX8_bitsOf_14 ?_
        refine z_iand X dX8_bitsOf_15 ?_
        refine z_name (fun v1 => ?_)
        refine z_istore_n X dX8_bitsOf_16 rfl (Nat.le_of_ble_eq_true rfl) rfl ?_
        refine z_goto X (tgt := 4) dX8_bitsOf_17 (by decide) ?_
        exact z_sub [1, 0] (ih4 _ _ _) rfl
  rw [fX8_bitsOf]
  refine z_iconst X (v := (0 : Int32)) dX8_bitsOf_0 (by decide) ?_
  refine z_istore_n X dX8_bitsOf_1 rfl (Nat.le_of_ble_eq_true rfl) rfl ?_
  refine z_iload_n X (q := 1) dX8_bitsOf_2 rfl rfl ?_
  refine z_istore_n X dX8_bitsOf_3 rfl (Nat.le_of_ble_eq_true rfl) rfl ?_
  exact z_sub [1, 0] (J4 _ _ _ _) rfl
theorem zw_703 : Cond.methodLink RX8 308 yX8_added0 ∈ wsL_law := zr_18 _ (by decide +kernel)
theorem zw_704 : Cond.instanceMethod yX8_added0 ∈ wsL_law := zr_18 _ (by decide +kernel)
theorem zw_705 : Cond.selects RX8 yX8_added0 yX8_added0 ∈ wsL_law := zr_18 _ (by decide +kernel)
theorem zw_706 : Cond.code yX8_added0 cX8_added0 4 (some .int) ∈ wsL_law := zr_18 _ (by decide +kernel)
theorem hk_X8_308 : ∀ w ∈ ([Cond.methodLink RX8 308 yX8_added0, Cond.instanceMethod yX8_added0, Cond.selects RX8 yX8_added0 yX8_added0, Cond.initialized RX8, Cond.code yX8_added0 cX8_added0 4 (some .int)] : List Cond), w ∈ wsL_law := List.forall_mem_cons.mpr ⟨zw_703, List.forall_mem_cons.mpr ⟨zw_704, List.forall_mem_cons.mpr ⟨zw_705, List.forall_mem_cons.mpr ⟨zw_525, List.forall_mem_cons.mpr ⟨zw_706, fun _ h => absurd h List.not_mem_nil⟩⟩⟩⟩⟩
theorem hd_X8_added0 : yX8_added0.cls = RX8 ∧ yX8_added0.cls ≠ "java/lang/invoke/MethodHandle" ∧ yX8_added0.cls ≠ "java/lang/invoke/VarHandle" ∧ (parseMethodDescriptor yX8_added0.desc).map (fun d => d.parameters.length) = some 0 := by decide +kernel
abbrev rmX8_not0 : Room := { frames := 38, cells := 0, slots := 0, locals := 856 }
def fX8_not0_j120 (this : Nat) (st : zS) : Option (Int32 × zS) :=
  some ((1 : Int32), st)
def fX8_not0_j124 (this : Nat) (st : zS) : Option (Int32 × zS) :=
  some ((0 : Int32), st)
def fX8_not0_j93 (this : Nat) (y1 : Int32) (s0 : Int32) (st : zS) : Option (Int32 × zS) :=
  (zok spM st (some this) 8).bind fun o5 => (fX8_next o5 st).bind fun q1 => (zok spM q1.2 (some this) 8).bind fun o4 => (fX8_added0 o4 q1.2).bind fun q2 => zlet (q2.1) fun v3 => if s0 = 0 then (if y1 = v3 then (fX8_not0_j120 this q2.2) else (fX8_not0_j124 this q2.2)) else (if v3 ≤ y1 then (fX8_not0_j124 this q2.2) else (fX8_not0_j120 this q2.2))
def fX8_not0_j77 (this : Nat) (y1 : Int32) (st : zS) : Option (Int32 × zS) :=
  (zok spM st (some this) 8).bind fun o6 => if (lg_cmp (st.2.2.1 o6) (60 : Int64)) = 0 then (fX8_not0_j93 this y1 (1 : Int32) st) else (fX8_not0_j93 this y1 (0 : Int32) st)
def fX8_not0 (this : Nat) (st : zS) : Option (Int32 × zS) :=
  (zok spM st (some this) 8).bind fun o23 => (fX8_isWord o23 (110 : Int32) (111 : Int32) (116 : Int32) (0 : Int32) (0 : Int32) (0 : Int32) (0 : Int32) (0 : Int32) st).bind fun q7 => if q7.1 = 0 then ((zok spM q7.2 (some this) 8).bind fun o14 => (fX8_added0 o14 q7.2).bind fun q8 => zlet (q8.1) fun v9 => (zok spM q8.2 (some this) 8).bind fun o13 => (fX8_isSign o13 (60 : Int32) q8.2).bind fun q10 => if q10.1 = 0 then ((zok spM q10.2 (some this) 8).bind fun o12 => (fX8_isSign o12 (61 : Int32) q10.2).bind fun q11 => if q11.1 = 0 then (some (v9, q11.2)) else (fX8_not0_j77 this v9 q11.2)) else (fX8_not0_j77 this v9 q10.2)) else ((zok spM q7.2 (some this) 8).bind fun o22 => (fX8_opens o22 q7.2).bind fun q15 => if q15.1 = 0 then (some ((0 : Int32), q15.2)) else ((zok spM q15.2 (some this) 8).bind fun o21 => (fX8_not1 o21 q15.2).bind fun q16 => zlet (q16.1) fun v17 => (zok spM q16.2 (some this) 8).bind fun o18 => (zok spM q16.2 (some this) 8).bind fun o19 => zlet (zp q16.2 o19 25 ((q16.2.2.1 o18 25) - (1 : Int32))) fun st20 => if v17 = 0 then (some ((1 : Int32), st20)) else (some ((0 : Int32), st20))))
set_option maxRecDepth 100000 in
set_option maxHeartbeats 4000000 in
theorem kX8_not0 (l : Launch) (Z : zZ) (b : Nat) (x : Option Nat) (this : Nat) (st : zS) : zC l Z spM b x yX8_not0 (.code yX8_not0 cX8_not0 4 (some .int)) (rmX8_not0) rI [vP (some this)] st (fX8_not0 this st) := by
  refine z_start (own := RX8) rfl (by decide +kernel) (Nat.le_of_ble_eq_true rfl) rfl (fun p e s m args below meth c res Q A X hK hr hlocks hQ => ?_)
  have J120 : ∀ (st : zS), zs p l e (rmX8_not0) s m args below meth c Q Z spM b x A 4 0 0 res (fX8_not0_j120 this st) 120 [] [] st := by
    intro  st
    rw [fX8_not0_j120]
    refine z_iconst X (v := (1 : Int32)) dX8_not0_120 (by decide) ?_
    refine z_goto X (tgt := 125) dX8_not0_121 (by decide) ?_
    subst hQ; exact z_iret X hlocks hr dX8_not0_125
  have J124 : ∀ (st : zS), zs p l e (rmX8_not0) s m args below meth c Q Z spM b x A 4 0 0 res (fX8_not0_j124 this st) 124 [] [] st := by
    intro  st
    rw [fX8_not0_j124]
    refine z_iconst X (v := (0 : Int32)) dX8_not0_124 (by decide) ?_
    subst hQ; exact z_iret X hlocks hr dX8_not0_125
  have J93 : ∀ (y1 : Int32) (s0 : Int32) (st : zS), zs p l e (rmX8_not0) s m args below meth c Q Z spM b x A 4 0 0 res (fX8_not0_j93 this y1 s0 st) 93 [(0, vP (some this)), (1, vI y1)] [vI s0] st := by
    intro y1 s0 st
    rw [fX8_not0_j93]
    refine z_istore_n X dX8_not0_93 rfl (Nat.le_of_ble_eq_true rfl) rfl ?_
    refine z_aload_n X (q := 1) dX8_not0_94 rfl rfl ?_
    refine z_callV X hK (As := []) (ci := 8) rfl (by decide) (fun o => (kX8_next l Z  b x o _)) hk_X8_172 ⟨rfl, rfl⟩ hd_X8_next ⟨Nat.le_of_ble_eq_true rfl, Nat.le_of_ble_eq_true rfl⟩ ⟨Nat.le_of_ble_eq_true rfl, Nat.le_of_ble_eq_true rfl⟩ rfl rfl (Nat.le_of_ble_eq_true rfl) dX8_not0_95 (fun _ q1 _ => ?_)
    refine z_aload_n X (q := 1) dX8_not0_98 rfl rfl ?_
    refine z_callV X hK (As := []) (ci := 8) rfl (by decide) (fun o => (kX8_added0 l Z  b x o _)) hk_X8_308 ⟨rfl, rfl⟩ hd_X8_added0 ⟨Nat.le_of_ble_eq_true rfl, Nat.le_of_ble_eq_true rfl⟩ ⟨Nat.le_of_ble_eq_true rfl, Nat.le_of_ble_eq_true rfl⟩ rfl rfl (Nat.le_of_ble_eq_true rfl) dX8_not0_99 (fun _ q2 _ => ?_)
    refine z_name (fun v3 => ?_)
    refine z_istore_n X dX8_not0_102 rfl (Nat.le_of_ble_eq_true rfl) rfl ?_
    refine z_iload_n X (q := 1) dX8_not0_103 rfl rfl ?_
    refine z_if_eq X (tgt := 115) dX8_not0_104 (by decide) (fun _ => ?_) (fun _ => ?_)
    · refine z_iload_n X (q := 3) dX8_not0_115 rfl rfl ?_
      refine z_iload_n X (q := 0) dX8_not0_116 rfl rfl ?_
      refine z_icmp_ne X (tgt := 124) dX8_not0_117 (by decide) (fun _ => ?_) (fun _ => ?_)
      · exact z_sub [] (J124  _) rfl
      · exact z_sub [] (J120  _) rfl
    · refine z_iload_n X (q := 3) dX8_not0_107 rfl rfl ?_
      refine z_iload_n X (q := 0) dX8_not0_108 rfl rfl ?_
      refine z_icmp_ge X (tgt := 124) dX8_not0_109 (by decide) (fun _ => ?_) (fun _ => ?_)
      · exact z_sub [] (J124  _) rfl
      · refine z_goto X (tgt := 120) dX8_not0_112 (by decide) ?_
        exact z_sub [] (J120  _) rfl
  have J77 : ∀ (y1 : Int32) (st : zS), zs p l e (rmX8_not0) s m args below meth c Q Z spM b x A 4 0 0 res (fX8_not0_j77 this y1 st) 77 [(0, vP (some this)), (1, vI y1)] [] st := by
    intro y1 st
    rw [fX8_not0_j77]
    refine z_aload_n X (q := 0) dX8_not0_77 rfl rfl ?_
    refine z_getl X hK (N := 46) (ci := 8) (k := 24) rfl (by decide) inlX8 (by decide) hf_X8_149 rfl spM_X8 rfl dX8_not0_78 (fun o6 _ => ?_)
    refine z_ldc2 X (v := (60 : Int64)) (hc_X8_219) dX8_not0_81 ?_
    refine z_lcmp X dX8_not0_84 ?_
    refine z_if_ne X (tgt := 92) dX8_not0_85 (by decide) (fun _ => ?_) (fun _ => ?_)
    · refine z_iconst X (v := (0 : Int32)) dX8_not0_92 (by decide) ?_
      exact z_sub [0, 1] (J93 _ _ _) rfl
    · refine z_iconst X (v := (1 : Int32)) dX8_not0_88 (by decide) ?_
      refine z_goto X (tgt := 93) dX8_not0_89 (by decide) ?_
      exact z_sub [0, 1] (J93 _ _ _) rfl
  rw [fX8_not0]
  refine z_aload_n X (q := 0) dX8_not0_0 rfl rfl ?_
  refine z_bipush X (v := (110 : Int32)) dX8_not0_1 (by decide) ?_
  refine z_bipush X (v := (111 : Int32)) dX8_not0_3 (by decide) ?_
  refine z_bipush X (v := (116 : Int32)) dX8_not0_5 (by decide) ?_
  refine z_iconst X (v := (0 : Int32)) dX8_not0_7 (by decide) ?_
  refine z_iconst X (v := (0 : Int32)) dX8_not0_8 (by decide) ?_
  refine z_iconst X (v := (0 : Int32)) dX8_not0_9 (by decide) ?_
  refine z_iconst X (v := (0 : Int32)) dX8_not0_10 (by decide) ?_
  refine z_iconst X (v := (0 : Int32)) dX8_not0_11 (by decide) ?_
  refine z_callV X hK (As := [vI (110 : Int32), vI (111 : Int32), vI (116 : Int32), vI (0 : Int32), vI (0 : Int32), vI (0 : Int32), vI (0 : Int32), vI (0 : Int32)]) (ci := 8) rfl (by decide) (fun o => (kX8_isWord l Z  b x o _ _ _ _ _ _ _ _ _)) hk_X8_175 ⟨rfl, rfl⟩ hd_X8_isWord ⟨Nat.le_of_ble_eq_true rfl, Nat.le_of_ble_eq_true rfl⟩ ⟨Nat.le_of_ble_eq_true rfl, Nat.le_of_ble_eq_true rfl⟩ rfl rfl (Nat.le_of_ble_eq_true rfl) dX8_not0_12 (fun _ q7 _ => ?_)
  refine z_if_eq X (tgt := 52) dX8_not0_15 (by decide) (fun _ => ?_) (fun _ => ?_)
  · refine z_aload_n X (q := 0) dX8_not0_52 rfl rfl ?_
    refine z_callV X hK (As := []) (ci := 8) rfl (by decide) (fun o => (kX8_added0 l Z  b x o _)) hk_X8_308 ⟨rfl, rfl⟩ hd_X8_added0 ⟨Nat.le_of_ble_eq_true rfl, Nat.le_of_ble_eq_true rfl⟩ ⟨Nat.le_of_ble_eq_true rfl, Nat.le_of_ble_eq_true rfl⟩ rfl rfl (Nat.le_of_ble_eq_true rfl) dX8_not0_53 (fun _ q8 _ => ?_)
    refine z_name (fun v9 => ?_)
    refine z_istore_n X dX8_not0_56 rfl (Nat.le_of_ble_eq_true rfl) rfl ?_
    refine z_aload_n X (q := 1) dX8_not0_57 rfl rfl ?_
    refine z_bipush X (v := (60 : Int32)) dX8_not0_58 (by decide) ?_
    refine z_callV X hK (As := [vI (60 : Int32)]) (ci := 8) rfl (by decide) (fun o => (kX8_isSign l Z  b x o _ _)) hk_X8_197 ⟨rfl, rfl⟩ hd_X8_isSign ⟨Nat.le_of_ble_eq_true rfl, Nat.le_of_ble_eq_true rfl⟩ ⟨Nat.le_of_ble_eq_true rfl, Nat.le_of_ble_eq_true rfl⟩ rfl rfl (Nat.le_of_ble_eq_true rfl) dX8_not0_60 (fun _ q10 _ => ?_)
    refine z_if_ne X (tgt := 77) dX8_not0_63 (by decide) (fun _ => ?_) (fun _ => ?_)
    · exact z_sub [1, 0] (J77 _ _) rfl
    · refine z_aload_n X (q := 1) dX8_not0_66 rfl rfl ?_
      refine z_bipush X (v := (61 : Int32)) dX8_not0_67 (by decide) ?_
      refine z_callV X hK (As := [vI (61 : Int32)]) (ci := 8) rfl (by decide) (fun o => (kX8_isSign l Z  b x o _ _)) hk_X8_197 ⟨rfl, rfl⟩ hd_X8_isSign ⟨Nat.le_of_ble_eq_true rfl, Nat.le_of_ble_eq_true rfl⟩ ⟨Nat.le_of_ble_eq_true rfl, Nat.le_of_ble_eq_true rfl⟩ rfl rfl (Nat.le_of_ble_eq_true rfl) dX8_not0_69 (fun _ q11 _ => ?_)
      refine z_if_ne X (tgt := 77) dX8_not0_72 (by decide) (fun _ => ?_) (fun _ => ?_)
      · exact z_sub [1, 0] (J77 _ _) rfl
      · refine z_iload_n X (q := 0) dX8_not0_75 rfl rfl ?_
        subst hQ; exact z_iret X hlocks hr dX8_not0_76
  · refine z_aload_n X (q := 0) dX8_not0_18 rfl rfl ?_
    refine z_callV X hK (As := []) (ci := 8) rfl (by decide) (fun o => (kX8_opens l Z  b x o _)) hk_X8_200 ⟨rfl, rfl⟩ hd_X8_opens ⟨Nat.le_of_ble_eq_true rfl, Nat.le_of_ble_eq_true rfl⟩ ⟨Nat.le_of_ble_eq_true rfl, Nat.le_of_ble_eq_true rfl⟩ rfl rfl (Nat.le_of_ble_eq_true rfl) dX8_not0_19 (fun _ q15 _ => ?_)
    refine z_if_ne X (tgt := 27) dX8_not0_22 (by decide) (fun _ => ?_) (fun _ => ?_)
    · refine z_aload_n X (q := 0) dX8_not0_27 rfl rfl ?_
      refine z_callV X hK (As := []) (ci := 8) rfl (by decide) (fun o => (kX8_not1 l Z  b x o _)) hk_X8_293 ⟨rfl, rfl⟩ hd_X8_not1 ⟨Nat.le_of_ble_eq_true rfl, Nat.le_of_ble_eq_true rfl⟩ ⟨Nat.le_of_ble_eq_true rfl, Nat.le_of_ble_eq_true rfl⟩ rfl rfl (Nat.le_of_ble_eq_true rfl) dX8_not0_28 (fun _ q16 _ => ?_)
      refine z_name (fun v17 => ?_)
      refine z_istore_n X dX8_not0_31 rfl (Nat.le_of_ble_eq_true rfl) rfl ?_
      refine z_aload_n X (q := 1) dX8_not0_32 rfl rfl ?_
      refine z_dup X dX8_not0_33 rfl ?_
      refine z_geti X hK (N := 46) (ci := 8) (k := 25) rfl (by decide) inlX8 (by decide) hf_X8_166 rfl spM_X8 rfl dX8_not0_34 (fun o18 _ => ?_)
      refine z_iconst X (v := (1 : Int32)) dX8_not0_37 (by decide) ?_
      refine z_isub X dX8_not0_38 ?_
      refine z_puti X hK (N := 46) (ci := 8) (k := 25) rfl (by decide) inlX8 tyX8 tyX8_ok nmX8 (by decide) hf_X8_166 rfl rfl spM_X8 rfl (by decide +kernel) dX8_not0_39 (fun o19 st20 _ => ?_)
      refine z_iload_n X (q := 0) dX8_not0_42 rfl rfl ?_
      refine z_if_ne X (tgt := 50) dX8_not0_43 (by decide) (fun _ => ?_) (fun _ => ?_)
      · refine z_iconst X (v := (0 : Int32)) dX8_not0_50 (by decide) ?_
        subst hQ; exact z_iret X hlocks hr dX8_not0_51
      · refine z_iconst X (v := (1 : Int32)) dX8_not0_46 (by decide) ?_
        refine z_goto X (tgt := 51) dX8_not0_47 (by decide) ?_
        subst hQ; exact z_iret X hlocks hr dX8_not0_51
    · refine z_iconst X (v := (0 : Int32)) dX8_not0_25 (by decide) ?_
      subst hQ; exact z_iret X hlocks hr dX8_not0_26
theorem zw_707 : Cond.methodLink RX8 311 yX8_not0 ∈ wsL_law := zr_13 _ (by decide +kernel)
theorem zw_708 : Cond.instanceMethod yX8_not0 ∈ wsL_law := zr_13 _ (by decide +kernel)
theorem zw_709 : Cond.selects RX8 yX8_not0 yX8_not0 ∈ wsL_law := zr_13 _ (by decide +kernel)
theorem zw_710 : Cond.code yX8_not0 cX8_not0 4 (some .int) ∈ wsL_law := zr_13 _ (by decide +kernel)
theorem hk_X8_311 : ∀ w ∈ ([Cond.methodLink RX8 311 yX8_not0, Cond.instanceMethod yX8_not0, Cond.selects RX8 yX8_not0 yX8_not0, Cond.initialized RX8, Cond.code yX8_not0 cX8_not0 4 (some .int)] : List Cond), w ∈ wsL_law := List.forall_mem_cons.mpr ⟨zw_707, List.forall_mem_cons.mpr ⟨zw_708, List.forall_mem_cons.mpr ⟨zw_709, List.forall_mem_cons.mpr ⟨zw_525, List.forall_mem_cons.mpr ⟨zw_710, fun _ h => absurd h List.not_mem_nil⟩⟩⟩⟩⟩
theorem hd_X8_not0 : yX8_not0.cls = RX8 ∧ yX8_not0.cls ≠ "java/lang/invoke/MethodHandle" ∧ yX8_not0.cls ≠ "java/lang/invoke/VarHandle" ∧ (parseMethodDescriptor yX8_not0.desc).map (fun d => d.parameters.length) = some 0 := by decide +kernel
abbrev rmX8_both0 : Room := { frames := 39, cells := 0, slots := 0, locals := 879 }
def fX8_both0_j45 (this : Nat) (k5 : Int32 → zS → Option (Int32 × zS)) (s0 : Int32) (st : zS) : Option (Int32 × zS) :=
  k5 s0 st
def fX8_both0_j44 (this : Nat) (k5 : Int32 → zS → Option (Int32 × zS)) (st : zS) : Option (Int32 × zS) :=
  fX8_both0_j45 this k5 (0 : Int32) st
def fX8_both0_L5 (this : Nat) : Nat → Int32 → zS → Option (Int32 × zS)
  | 0, _, _ => none
  | n + 1, y1, st => (zok spM st (some this) 8).bind fun o7 => (fX8_isWord o7 (97 : Int32) (110 : Int32) (100 : Int32) (0 : Int32) (0 : Int32) (0 : Int32) (0 : Int32) (0 : Int32) st).bind fun q1 => if q1.1 = 0 then (some (y1, q1.2)) else ((zok spM q1.2 (some this) 8).bind fun o6 => (fX8_next o6 q1.2).bind fun q2 => (zok spM q2.2 (some this) 8).bind fun o5 => (fX8_not0 o5 q2.2).bind fun q3 => zlet (q3.1) fun v4 => if y1 = 0 then (fX8_both0_j44 this (fX8_both0_L5 this n) q3.2) else (if v4 = 0 then (fX8_both0_j44 this (fX8_both0_L5 this n) q3.2) else (fX8_both0_j45 this (fX8_both0_L5 this n) (1 : Int32) q3.2)))
def fX8_both0 (this : Nat) (st : zS) : Option (Int32 × zS) :=
  (zok spM st (some this) 8).bind fun o10 => (fX8_not0 o10 st).bind fun q8 => zlet (q8.1) fun v9 => fX8_both0_L5 this zF v9 q8.2
set_option maxRecDepth 100000 in
set_option maxHeartbeats 4000000 in
theorem kX8_both0 (l : Launch) (Z : zZ) (b : Nat) (x : Option Nat) (this : Nat) (st : zS) : zC l Z spM b x yX8_both0 (.code yX8_both0 cX8_both0 3 (some .int)) (rmX8_both0) rI [vP (some this)] st (fX8_both0 this st) := by
  refine z_start (own := RX8) rfl (by decide +kernel) (Nat.le_of_ble_eq_true rfl) rfl (fun p e s m args below meth c res Q A X hK hr hlocks hQ => ?_)
  have J5 : ∀ (n5 : Nat) (y1 : Int32) (st : zS), zs p l e (rmX8_both0) s m args below meth c Q Z spM b x A 3 0 0 res (fX8_both0_L5 this n5 y1 st) 5 [(0, vP (some this)), (1, vI y1)] [] st := by
    intro n5
    induction n5 with
    | zero => intros; exact z_none
    | succ n5 ih5 =>
      have J45 : ∀ (s0 : Int32) (st : zS), zs p l e (rmX8_both0) s m args below meth c Q Z spM b x A 3 0 0 res (fX8_both0_j45 this (fX8_both0_L5 this n5) s0 st) 45 [(0, vP (some this))] [vI s0] st := by
        intro s0 st
        rw [fX8_both0_j45]
        refine z_istore_n X dX8_both0_45 rfl (Nat.le_of_ble_eq_true rfl) rfl ?_
        refine z_goto X (tgt := 5) dX8_both0_46 (by decide) ?_
        exact z_sub [1, 0] (ih5 _ _) rfl
      have J44 : ∀ (st : zS), zs p l e (rmX8_both0) s m args below meth c Q Z spM b x A 3 0 0 res (fX8_both0_j44 this (fX8_both0_L5 this n5) st) 44 [(0, vP (some this))] [] st := by
        intro  st
        rw [fX8_both0_j44]
        refine z_iconst X (v := (0 : Int32)) dX8_both0_44 (by decide) ?_
        exact z_sub [0] (J45 _ _) rfl
      intro y1 st
      rw [fX8_both0_L5]
      refine z_aload_n X (q := 0) dX8_both0_5 rfl rfl ?_
      refine z_bipush X (v := (97 : Int32)) dX8_both0_6 (by decide) ?_
      refine z_bipush X (v := (110 : Int32)) dX8_both0_8 (by decide) ?_
      refine z_bipush X (v := (100 : Int32)) dX8_both0_10 (by decide) ?_
      refine z_iconst X (v := (0 : Int32)) dX8_both0_12 (by decide) ?_
      refine z_iconst X (v := (0 : Int32)) dX8_both0_13 (by decide) ?_
      refine z_iconst X (v := (0 : Int32)) dX8_both0_14 (by decide) ?_
      refine z_iconst X (v := (0 : Int32)) dX8_both0_15 (by decide) ?_
      refine z_iconst X (v := (0 : Int32)) dX8_both0_16 (by decide) ?_
      refine z_callV X hK (As := [vI (97 : Int32), vI (110 : Int32), vI (100 : Int32), vI (0 : Int32), vI (0 : Int32), vI (0 : Int32), vI (0 : Int32), vI (0 : Int32)]) (ci := 8) rfl (by decide) (fun o => (kX8_isWord l Z  b x o _ _ _ _ _ _ _ _ _)) hk_X8_175 ⟨rfl, rfl⟩ hd_X8_isWord ⟨Nat.le_of_ble_eq_true rfl, Nat.le_of_ble_eq_true rfl⟩ ⟨Nat.le_of_ble_eq_true rfl, Nat.le_of_ble_eq_true rfl⟩ rfl rfl (Nat.le_of_ble_eq_true rfl) dX8_both0_17 (fun _ q1 _ => ?_)
      refine z_if_eq X (tgt := 49) dX8_both0_20 (by decide) (fun _ => ?_) (fun _ => ?_)
      · refine z_iload_n X (q := 1) dX8_both0_49 rfl rfl ?_
        subst hQ; exact z_iret X hlocks hr dX8_both0_50
      · refine z_aload_n X (q := 0) dX8_both0_23 rfl rfl ?_
        refine z_callV X hK (As := []) (ci := 8) rfl (by decide) (fun o => (kX8_next l Z  b x o _)) hk_X8_172 ⟨rfl, rfl⟩ hd_X8_next ⟨Nat.le_of_ble_eq_true rfl, Nat.le_of_ble_eq_true rfl⟩ ⟨Nat.le_of_ble_eq_true rfl, Nat.le_of_ble_eq_true rfl⟩ rfl rfl (Nat.le_of_ble_eq_true rfl) dX8_both0_24 (fun _ q2 _ => ?_)
        refine z_aload_n X (q := 0) dX8_both0_27 rfl rfl ?_
        refine z_callV X hK (As := []) (ci := 8) rfl (by decide) (fun o => (kX8_not0 l Z  b x o _)) hk_X8_311 ⟨rfl, rfl⟩ hd_X8_not0 ⟨Nat.le_of_ble_eq_true rfl, Nat.le_of_ble_eq_true rfl⟩ ⟨Nat.le_of_ble_eq_true rfl, Nat.le_of_ble_eq_true rfl⟩ rfl rfl (Nat.le_of_ble_eq_true rfl) dX8_both0_28 (fun _ q3 _ => ?_)
        refine z_name (fun v4 => ?_)
        refine z_istore_n X dX8_both0_31 rfl (Nat.le_of_ble_eq_true rfl) rfl ?_
        refine z_iload_n X (q := 2) dX8_both0_32 rfl rfl ?_
        refine z_if_eq X (tgt := 44) dX8_both0_33 (by decide) (fun _ => ?_) (fun _ => ?_)
        · exact z_sub [1] (J44  _) rfl
        · refine z_iload_n X (q := 0) dX8_both0_36 rfl rfl ?_
          refine z_if_eq X (tgt := 44) dX8_both0_37 (by decide) (fun _ => ?_) (fun _ => ?_)
          · exact z_sub [1] (J44  _) rfl
          · refine z_iconst X (v := (1 : Int32)) dX8_both0_40 (by decide) ?_
            refine z_goto X (tgt := 45) dX8_both0_41 (by decide) ?_
            exact z_sub [1] (J45 _ _) rfl
  rw [fX8_both0]
  refine z_aload_n X (q := 0) dX8_both0_0 rfl rfl ?_
  refine z_callV X hK (As := []) (ci := 8) rfl (by decide) (fun o => (kX8_not0 l Z  b x o _)) hk_X8_311 ⟨rfl, rfl⟩ hd_X8_not0 ⟨Nat.le_of_ble_eq_true rfl, Nat.le_of_ble_eq_true rfl⟩ ⟨Nat.le_of_ble_eq_true rfl, Nat.le_of_ble_eq_true rfl⟩ rfl rfl (Nat.le_of_ble_eq_true rfl) dX8_both0_1 (fun _ q8 _ => ?_)
  refine z_name (fun v9 => ?_)
  refine z_istore_n X dX8_both0_4 rfl (Nat.le_of_ble_eq_true rfl) rfl ?_
  exact z_sub [1, 0] (J5 _ _ _) rfl
theorem zw_711 : Cond.methodLink RX8 314 yX8_both0 ∈ wsL_law := zr_13 _ (by decide +kernel)
theorem zw_712 : Cond.instanceMethod yX8_both0 ∈ wsL_law := zr_13 _ (by decide +kernel)
theorem zw_713 : Cond.selects RX8 yX8_both0 yX8_both0 ∈ wsL_law := zr_13 _ (by decide +kernel)
theorem zw_714 : Cond.code yX8_both0 cX8_both0 3 (some .int) ∈ wsL_law := zr_13 _ (by decide +kernel)
theorem hk_X8_314 : ∀ w ∈ ([Cond.methodLink RX8 314 yX8_both0, Cond.instanceMethod yX8_both0, Cond.selects RX8 yX8_both0 yX8_both0, Cond.initialized RX8, Cond.code yX8_both0 cX8_both0 3 (some .int)] : List Cond), w ∈ wsL_law := List.forall_mem_cons.mpr ⟨zw_711, List.forall_mem_cons.mpr ⟨zw_712, List.forall_mem_cons.mpr ⟨zw_713, List.forall_mem_cons.mpr ⟨zw_525, List.forall_mem_cons.mpr ⟨zw_714, fun _ h => absurd h List.not_mem_nil⟩⟩⟩⟩⟩
theorem hd_X8_both0 : yX8_both0.cls = RX8 ∧ yX8_both0.cls ≠ "java/lang/invoke/MethodHandle" ∧ yX8_both0.cls ≠ "java/lang/invoke/VarHandle" ∧ (parseMethodDescriptor yX8_both0.desc).map (fun d => d.parameters.length) = some 0 := by decide +kernel
abbrev rmX8_either0 : Room := { frames := 40, cells := 0, slots := 0, locals := 901 }
def fX8_either0_j44 (this : Nat) (k5 : Int32 → zS → Option (Int32 × zS)) (s0 : Int32) (st : zS) : Option (Int32 × zS) :=
  k5 s0 st
def fX8_either0_j39 (this : Nat) (k5 : Int32 → zS → Option (Int32 × zS)) (st : zS) : Option (Int32 × zS) :=
  fX8_either0_j44 this k5 (1 : Int32) st
def fX8_either0_L5 (this : Nat) : Nat → Int32 → zS → Option (Int32 × zS)
  | 0, _, _ => none
  | n + 1, y1, st => (zok spM st (some this) 8).bind fun o7 => (fX8_isWord o7 (111 : Int32) (114 : Int32) (0 : Int32) (0 : Int32) (0 : Int32) (0 : Int32) (0 : Int32) (0 : Int32) st).bind fun q1 => if q1.1 = 0 then (some (y1, q1.2)) else ((zok spM q1.2 (some this) 8).bind fun o6 => (fX8_next o6 q1.2).bind fun q2 => (zok spM q2.2 (some this) 8).bind fun o5 => (fX8_both0 o5 q2.2).bind fun q3 => zlet (q3.1) fun v4 => if y1 = 0 then (if v4 = 0 then (fX8_either0_j44 this (fX8_either0_L5 this n) (0 : Int32) q3.2) else (fX8_either0_j39 this (fX8_either0_L5 this n) q3.2)) else (fX8_either0_j39 this (fX8_either0_L5 this n) q3.2))
def fX8_either0 (this : Nat) (st : zS) : Option (Int32 × zS) :=
  (zok spM st (some this) 8).bind fun o10 => (fX8_both0 o10 st).bind fun q8 => zlet (q8.1) fun v9 => fX8_either0_L5 this zF v9 q8.2
set_option maxRecDepth 100000 in
set_option maxHeartbeats 4000000 in
theorem kX8_either0 (l : Launch) (Z : zZ) (b : Nat) (x : Option Nat) (this : Nat) (st : zS) : zC l Z spM b x yX8_either0 (.code yX8_either0 cX8_either0 3 (some .int)) (rmX8_either0) rI [vP (some this)] st (fX8_either0 this st) := by
  refine z_start (own := RX8) rfl (by decide +kernel) (Nat.le_of_ble_eq_true rfl) rfl (fun p e s m args below meth c res Q A X hK hr hlocks hQ => ?_)
  have J5 : ∀ (n5 : Nat) (y1 : Int32) (st : zS), zs p l e (rmX8_either0) s m args below meth c Q Z spM b x A 3 0 0 res (fX8_either0_L5 this n5 y1 st) 5 [(0, vP (some this)), (1, vI y1)] [] st := by
    intro n5
    induction n5 with
    | zero => intros; exact z_none
    | succ n5 ih5 =>
      have J44 : ∀ (s0 : Int32) (st : zS), zs p l e (rmX8_either0) s m args below meth c Q Z spM b x A 3 0 0 res (fX8_either0_j44 this (fX8_either0_L5 this n5) s0 st) 44 [(0, vP (some this))] [vI s0] st := by
        intro s0 st
        rw [fX8_either0_j44]
        refine z_istore_n X dX8_either0_44 rfl (Nat.le_of_ble_eq_true rfl) rfl ?_
        refine z_goto X (tgt := 5) dX8_either0_45 (by decide) ?_
        exact z_sub [1, 0] (ih5 _ _) rfl
      have J39 : ∀ (st : zS), zs p l e (rmX8_either0) s m args below meth c Q Z spM b x A 3 0 0 res (fX8_either0_j39 this (fX8_either0_L5 this n5) st) 39 [(0, vP (some this))] [] st := by
        intro  st
        rw [fX8_either0_j39]
        refine z_iconst X (v := (1 : Int32)) dX8_either0_39 (by decide) ?_
        refine z_goto X (tgt := 44) dX8_either0_40 (by decide) ?_
        exact z_sub [0] (J44 _ _) rfl
      intro y1 st
      rw [fX8_either0_L5]
      refine z_aload_n X (q := 0) dX8_either0_5 rfl rfl ?_
      refine z_bipush X (v := (111 : Int32)) dX8_either0_6 (by decide) ?_
      refine z_bipush X (v := (114 : Int32)) dX8_either0_8 (by decide) ?_
      refine z_iconst X (v := (0 : Int32)) dX8_either0_10 (by decide) ?_
      refine z_iconst X (v := (0 : Int32)) dX8_either0_11 (by decide) ?_
      refine z_iconst X (v := (0 : Int32)) dX8_either0_12 (by decide) ?_
      refine z_iconst X (v := (0 : Int32)) dX8_either0_13 (by decide) ?_
      refine z_iconst X (v := (0 : Int32)) dX8_either0_14 (by decide) ?_
      refine z_iconst X (v := (0 : Int32)) dX8_either0_15 (by decide) ?_
      refine z_callV X hK (As := [vI (111 : Int32), vI (114 : Int32), vI (0 : Int32), vI (0 : Int32), vI (0 : Int32), vI (0 : Int32), vI (0 : Int32), vI (0 : Int32)]) (ci := 8) rfl (by decide) (fun o => (kX8_isWord l Z  b x o _ _ _ _ _ _ _ _ _)) hk_X8_175 ⟨rfl, rfl⟩ hd_X8_isWord ⟨Nat.le_of_ble_eq_true rfl, Nat.le_of_ble_eq_true rfl⟩ ⟨Nat.le_of_ble_eq_true rfl, Nat.le_of_ble_eq_true rfl⟩ rfl rfl (Nat.le_of_ble_eq_true rfl) dX8_either0_16 (fun _ q1 _ => ?_)
      refine z_if_eq X (tgt := 48) dX8_either0_19 (by decide) (fun _ => ?_) (fun _ => ?_)
      · refine z_iload_n X (q := 1) dX8_either0_48 rfl rfl ?_
        subst hQ; exact z_iret X hlocks hr dX8_either0_49
      · refine z_aload_n X (q := 0) dX8_either0_22 rfl rfl ?_
        refine z_callV X hK (As := []) (ci := 8) rfl (by decide) (fun o => (kX8_next l Z  b x o _)) hk_X8_172 ⟨rfl, rfl⟩ hd_X8_next ⟨Nat.le_of_ble_eq_true rfl, Nat.le_of_ble_eq_true rfl⟩ ⟨Nat.le_of_ble_eq_true rfl, Nat.le_of_ble_eq_true rfl⟩ rfl rfl (Nat.le_of_ble_eq_true rfl) dX8_either0_23 (fun _ q2 _ => ?_)
        refine z_aload_n X (q := 0) dX8_either0_26 rfl rfl ?_
        refine z_callV X hK (As := []) (ci := 8) rfl (by decide) (fun o => (kX8_both0 l Z  b x o _)) hk_X8_314 ⟨rfl, rfl⟩ hd_X8_both0 ⟨Nat.le_of_ble_eq_true rfl, Nat.le_of_ble_eq_true rfl⟩ ⟨Nat.le_of_ble_eq_true rfl, Nat.le_of_ble_eq_true rfl⟩ rfl rfl (Nat.le_of_ble_eq_true rfl) dX8_either0_27 (fun _ q3 _ => ?_)
        refine z_name (fun v4 => ?_)
        refine z_istore_n X dX8_either0_30 rfl (Nat.le_of_ble_eq_true rfl) rfl ?_
        refine z_iload_n X (q := 2) dX8_either0_31 rfl rfl ?_
        refine z_if_ne X (tgt := 39) dX8_either0_32 (by decide) (fun _ => ?_) (fun _ => ?_)
        · exact z_sub [1] (J39  _) rfl
        · refine z_iload_n X (q := 0) dX8_either0_35 rfl rfl ?_
          refine z_if_eq X (tgt := 43) dX8_either0_36 (by decide) (fun _ => ?_) (fun _ => ?_)
          · refine z_iconst X (v := (0 : Int32)) dX8_either0_43 (by decide) ?_
            exact z_sub [1] (J44 _ _) rfl
          · exact z_sub [1] (J39  _) rfl
  rw [fX8_either0]
  refine z_aload_n X (q := 0) dX8_either0_0 rfl rfl ?_
  refine z_callV X hK (As := []) (ci := 8) rfl (by decide) (fun o => (kX8_both0 l Z  b x o _)) hk_X8_314 ⟨rfl, rfl⟩ hd_X8_both0 ⟨Nat.le_of_ble_eq_true rfl, Nat.le_of_ble_eq_true rfl⟩ ⟨Nat.le_of_ble_eq_true rfl, Nat.le_of_ble_eq_true rfl⟩ rfl rfl (Nat.le_of_ble_eq_true rfl) dX8_either0_1 (fun _ q8 _ => ?_)
  refine z_name (fun v9 => ?_)
  refine z_istore_n X dX8_either0_4 rfl (Nat.le_of_ble_eq_true rfl) rfl ?_
  exact z_sub [1, 0] (J5 _ _ _) rfl
theorem zw_715 : Cond.methodLink RX8 317 yX8_either0 ∈ wsL_law := zr_12 _ (by decide +kernel)
theorem zw_716 : Cond.instanceMethod yX8_either0 ∈ wsL_law := zr_13 _ (by decide +kernel)
theorem zw_717 : Cond.selects RX8 yX8_either0 yX8_either0 ∈ wsL_law := zr_13 _ (by decide +kernel)
theorem zw_718 : Cond.code yX8_either0 cX8_either0 3 (some .int) ∈ wsL_law := zr_13 _ (by decide +kernel)
theorem hk_X8_317 : ∀ w ∈ ([Cond.methodLink RX8 317 yX8_either0, Cond.instanceMethod yX8_either0, Cond.selects RX8 yX8_either0 yX8_either0, Cond.initialized RX8, Cond.code yX8_either0 cX8_either0 3 (some .int)] : List Cond), w ∈ wsL_law := List.forall_mem_cons.mpr ⟨zw_715, List.forall_mem_cons.mpr ⟨zw_716, List.forall_mem_cons.mpr ⟨zw_717, List.forall_mem_cons.mpr ⟨zw_525, List.forall_mem_cons.mpr ⟨zw_718, fun _ h => absurd h List.not_mem_nil⟩⟩⟩⟩⟩
theorem hd_X8_either0 : yX8_either0.cls = RX8 ∧ yX8_either0.cls ≠ "java/lang/invoke/MethodHandle" ∧ yX8_either0.cls ≠ "java/lang/invoke/VarHandle" ∧ (parseMethodDescriptor yX8_either0.desc).map (fun d => d.parameters.length) = some 0 := by decide +kernel
abbrev rmX8_part : Room := { frames := 41, cells := 0, slots := 0, locals := 923 }
def fX8_part_j48 (this : Nat) (y2 : Int32) (st : zS) : Option (Int32 × zS) :=
  (zok spM st (some this) 8).bind fun o1 => if (st.2.1 o1 26) = 0 then ((zok spM st (some this) 8).bind fun o3 => (fX8_next o3 st).bind fun q2 => some (y2, q2.2)) else (some (y2, st))
def fX8_part_j34 (this : Nat) (s0 : Int32) (st : zS) : Option (Int32 × zS) :=
  (zok spM st (some this) 8).bind fun o7 => (fX8_isSign o7 (59 : Int32) st).bind fun q4 => if q4.1 = 0 then ((zok spM q4.2 (some this) 8).bind fun o6 => (fX8_fail o6 q4.2).bind fun q5 => fX8_part_j48 this s0 q5.2) else (fX8_part_j48 this s0 q4.2)
def fX8_part_j19 (this : Nat) (st : zS) : Option (Int32 × zS) :=
  (zok spM st (some this) 8).bind fun o8 => if (st.2.1 o8 26) = 0 then ((zok spM st (some this) 8).bind fun o10 => (fX8_either0 o10 st).bind fun q9 => fX8_part_j34 this q9.1 q9.2) else (fX8_part_j34 this (0 : Int32) st)
def fX8_part_j8 (this : Nat) (st : zS) : Option (Int32 × zS) :=
  (zok spM st (some this) 8).bind fun o11 => if (st.2.1 o11 26) = 0 then ((zok spM st (some this) 8).bind fun o13 => (fX8_next o13 st).bind fun q12 => fX8_part_j19 this q12.2) else (fX8_part_j19 this st)
def fX8_part (this : Nat) (a1 : Int32) (st : zS) : Option (Int32 × zS) :=
  if a1 = 0 then ((zok spM st (some this) 8).bind fun o15 => (fX8_fail o15 st).bind fun q14 => fX8_part_j8 this q14.2) else (fX8_part_j8 this st)
set_option maxRecDepth 100000 in
set_option maxHeartbeats 4000000 in
theorem kX8_part (l : Launch) (Z : zZ) (b : Nat) (x : Option Nat) (this : Nat) (a1 : Int32) (st : zS) : zC l Z spM b x yX8_part (.code yX8_part cX8_part 3 (some .int)) (rmX8_part) rI [vP (some this), vI a1] st (fX8_part this a1 st) := by
  refine z_start (own := RX8) rfl (by decide +kernel) (Nat.le_of_ble_eq_true rfl) rfl (fun p e s m args below meth c res Q A X hK hr hlocks hQ => ?_)
  have J48 : ∀ (y2 : Int32) (st : zS), zs p l e (rmX8_part) s m args below meth c Q Z spM b x A 3 0 0 res (fX8_part_j48 this y2 st) 48 [(0, vP (some this)), (2, vI y2)] [] st := by
    intro y2 st
    rw [fX8_part_j48]
    refine z_aload_n X (q := 0) dX8_part_48 rfl rfl ?_
    refine z_geti X hK (N := 46) (ci := 8) (k := 26) rfl (by decide) inlX8 (by decide) hf_X8_155 rfl spM_X8 rfl dX8_part_49 (fun o1 _ => ?_)
    refine z_if_ne X (tgt := 59) dX8_part_52 (by decide) (fun _ => ?_) (fun _ => ?_)
    · refine z_iload_n X (q := 1) dX8_part_59 rfl rfl ?_
      subst hQ; exact z_iret X hlocks hr dX8_part_60
    · refine z_aload_n X (q := 0) dX8_part_55 rfl rfl ?_
      refine z_callV X hK (As := []) (ci := 8) rfl (by decide) (fun o => (kX8_next l Z  b x o _)) hk_X8_172 ⟨rfl, rfl⟩ hd_X8_next ⟨Nat.le_of_ble_eq_true rfl, Nat.le_of_ble_eq_true rfl⟩ ⟨Nat.le_of_ble_eq_true rfl, Nat.le_of_ble_eq_true rfl⟩ rfl rfl (Nat.le_of_ble_eq_true rfl) dX8_part_56 (fun _ q2 _ => ?_)
      refine z_iload_n X (q := 1) dX8_part_59 rfl rfl ?_
      subst hQ; exact z_iret X hlocks hr dX8_part_60
  have J34 : ∀ (s0 : Int32) (st : zS), zs p l e (rmX8_part) s m args below meth c Q Z spM b x A 3 0 0 res (fX8_part_j34 this s0 st) 34 [(0, vP (some this))] [vI s0] st := by
    intro s0 st
    rw [fX8_part_j34]
    refine z_istore_n X dX8_part_34 rfl (Nat.le_of_ble_eq_true rfl) rfl ?_
    refine z_aload_n X (q := 1) dX8_part_35 rfl rfl ?_
    refine z_bipush X (v := (59 : Int32)) dX8_part_36 (by decide) ?_
    refine z_callV X hK (As := [vI (59 : Int32)]) (ci := 8) rfl (by decide) (fun o => (kX8_isSign l Z  b x o _ _)) hk_X8_197 ⟨rfl, rfl⟩ hd_X8_isSign ⟨Nat.le_of_ble_eq_true rfl, Nat.le_of_ble_eq_true rfl⟩ ⟨Nat.le_of_ble_eq_true rfl, Nat.le_of_ble_eq_true rfl⟩ rfl rfl (Nat.le_of_ble_eq_true rfl) dX8_part_38 (fun _ q4 _ => ?_)
    refine z_if_ne X (tgt := 48) dX8_part_41 (by decide) (fun _ => ?_) (fun _ => ?_)
    · exact z_sub [1, 0] (J48 _ _) rfl
    · refine z_aload_n X (q := 1) dX8_part_44 rfl rfl ?_
      refine z_callV X hK (As := []) (ci := 8) rfl (by decide) (fun o => (kX8_fail l Z  b x o _)) hk_X8_169 ⟨rfl, rfl⟩ hd_X8_fail ⟨Nat.le_of_ble_eq_true rfl, Nat.le_of_ble_eq_true rfl⟩ ⟨Nat.le_of_ble_eq_true rfl, Nat.le_of_ble_eq_true rfl⟩ rfl rfl (Nat.le_of_ble_eq_true rfl) dX8_part_45 (fun _ q5 _ => ?_)
      exact z_sub [1, 0] (J48 _ _) rfl
  have J19 : ∀ (st : zS), zs p l e (rmX8_part) s m args below meth c Q Z spM b x A 3 0 0 res (fX8_part_j19 this st) 19 [(0, vP (some this))] [] st := by
    intro  st
    rw [fX8_part_j19]
    refine z_aload_n X (q := 0) dX8_part_19 rfl rfl ?_
    refine z_geti X hK (N := 46) (ci := 8) (k := 26) rfl (by decide) inlX8 (by decide) hf_X8_155 rfl spM_X8 rfl dX8_part_20 (fun o8 _ => ?_)
    refine z_if_eq X (tgt := 30) dX8_part_23 (by decide) (fun _ => ?_) (fun _ => ?_)
    · refine z_aload_n X (q := 0) dX8_part_30 rfl rfl ?_
      refine z_callV X hK (As := []) (ci := 8) rfl (by decide) (fun o => (kX8_either0 l Z  b x o _)) hk_X8_317 ⟨rfl, rfl⟩ hd_X8_either0 ⟨Nat.le_of_ble_eq_true rfl, Nat.le_of_ble_eq_true rfl⟩ ⟨Nat.le_of_ble_eq_true rfl, Nat.le_of_ble_eq_true rfl⟩ rfl rfl (Nat.le_of_ble_eq_true rfl) dX8_part_31 (fun _ q9 _ => ?_)
      exact z_sub [0] (J34 _ _) rfl
    · refine z_iconst X (v := (0 : Int32)) dX8_part_26 (by decide) ?_
      refine z_goto X (tgt := 34) dX8_part_27 (by decide) ?_
      exact z_sub [0] (J34 _ _) rfl
  have J8 : ∀ (st : zS), zs p l e (rmX8_part) s m args below meth c Q Z spM b x A 3 0 0 res (fX8_part_j8 this st) 8 [(0, vP (some this))] [] st := by
    intro  st
    rw [fX8_part_j8]
    refine z_aload_n X (q := 0) dX8_part_8 rfl rfl ?_
    refine z_geti X hK (N := 46) (ci := 8) (k := 26) rfl (by decide) inlX8 (by decide) hf_X8_155 rfl spM_X8 rfl dX8_part_9 (fun o11 _ => ?_)
    refine z_if_ne X (tgt := 19) dX8_part_12 (by decide) (fun _ => ?_) (fun _ => ?_)
    · exact z_sub [0] (J19  _) rfl
    · refine z_aload_n X (q := 0) dX8_part_15 rfl rfl ?_
      refine z_callV X hK (As := []) (ci := 8) rfl (by decide) (fun o => (kX8_next l Z  b x o _)) hk_X8_172 ⟨rfl, rfl⟩ hd_X8_next ⟨Nat.le_of_ble_eq_true rfl, Nat.le_of_ble_eq_true rfl⟩ ⟨Nat.le_of_ble_eq_true rfl, Nat.le_of_ble_eq_true rfl⟩ rfl rfl (Nat.le_of_ble_eq_true rfl) dX8_part_16 (fun _ q12 _ => ?_)
      exact z_sub [0] (J19  _) rfl
  rw [fX8_part]
  refine z_iload_n X (q := 1) dX8_part_0 rfl rfl ?_
  refine z_if_ne X (tgt := 8) dX8_part_1 (by decide) (fun _ => ?_) (fun _ => ?_)
  · exact z_sub [0] (J8  _) rfl
  · refine z_aload_n X (q := 0) dX8_part_4 rfl rfl ?_
    refine z_callV X hK (As := []) (ci := 8) rfl (by decide) (fun o => (kX8_fail l Z  b x o _)) hk_X8_169 ⟨rfl, rfl⟩ hd_X8_fail ⟨Nat.le_of_ble_eq_true rfl, Nat.le_of_ble_eq_true rfl⟩ ⟨Nat.le_of_ble_eq_true rfl, Nat.le_of_ble_eq_true rfl⟩ rfl rfl (Nat.le_of_ble_eq_true rfl) dX8_part_5 (fun _ q14 _ => ?_)
    exact z_sub [0] (J8  _) rfl
theorem zw_719 : Cond.methodLink RX8 320 yX8_part ∈ wsL_law := zr_12 _ (by decide +kernel)
theorem zw_720 : Cond.instanceMethod yX8_part ∈ wsL_law := zr_12 _ (by decide +kernel)
theorem zw_721 : Cond.selects RX8 yX8_part yX8_part ∈ wsL_law := zr_12 _ (by decide +kernel)
theorem zw_722 : Cond.code yX8_part cX8_part 3 (some .int) ∈ wsL_law := zr_12 _ (by decide +kernel)
theorem hk_X8_320 : ∀ w ∈ ([Cond.methodLink RX8 320 yX8_part, Cond.instanceMethod yX8_part, Cond.selects RX8 yX8_part yX8_part, Cond.initialized RX8, Cond.code yX8_part cX8_part 3 (some .int)] : List Cond), w ∈ wsL_law := List.forall_mem_cons.mpr ⟨zw_719, List.forall_mem_cons.mpr ⟨zw_720, List.forall_mem_cons.mpr ⟨zw_721, List.forall_mem_cons.mpr ⟨zw_525, List.forall_mem_cons.mpr ⟨zw_722, fun _ h => absurd h List.not_mem_nil⟩⟩⟩⟩⟩
theorem hd_X8_part : yX8_part.cls = RX8 ∧ yX8_part.cls ≠ "java/lang/invoke/MethodHandle" ∧ yX8_part.cls ≠ "java/lang/invoke/VarHandle" ∧ (parseMethodDescriptor yX8_part.desc).map (fun d => d.parameters.length) = some 1 := by decide +kernel
theorem zw_723 : Cond.fieldLink RX8 17 "WellGivesOtherModel" "textSize" "[I" ∈ wsL_law := zr_6 _ (by decide +kernel)
theorem hf_X8_17 : Cond.fieldLink RX8 17 "WellGivesOtherModel" "textSize" "[I" ∈ wsL_law := zw_723
abbrev rmX8_read : Room := { frames := 42, cells := 0, slots := 0, locals := 945 }
def fX8_read_j146 (this : Nat) (y2 : Int32) (y3 : Int32) (y4 : Int32) (y5 : Int32) (st : zS) : Option (Int32 × zS) :=
  if y2 = 0 then (some (y3, st)) else (if y2 = (1 : Int32) then (some (y4, st)) else (some (y5, st)))
def fX8_read_j126 (this : Nat) (y2 : Int32) (y3 : Int32) (y4 : Int32) (s0 : Int32) (st : zS) : Option (Int32 × zS) :=
  (zok spM st (some this) 8).bind fun o1 => if (st.2.1 o1 26) = 0 then ((zok spM st (some this) 8).bind fun o2 => if (st.2.1 o2 22) = 0 then (fX8_read_j146 this y2 y3 y4 s0 st) else ((zok spM st (some this) 8).bind fun o4 => (fX8_fail o4 st).bind fun q3 => fX8_read_j146 this y2 y3 y4 s0 q3.2)) else (fX8_read_j146 this y2 y3 y4 s0 st)
def fX8_read_j92 (this : Nat) (y2 : Int32) (y3 : Int32) (s0 : Int32) (st : zS) : Option (Int32 × zS) :=
  (zok spM st (some this) 8).bind fun o5 => if (st.2.1 o5 26) = 0 then ((zok spM st (some this) 8).bind fun o9 => (fX8_isWord o9 (99 : Int32) (111 : Int32) (115 : Int32) (116 : Int32) (115 : Int32) (0 : Int32) (0 : Int32) (0 : Int32) st).bind fun q6 => (zok spM q6.2 (some this) 8).bind fun o8 => (fX8_part o8 q6.1 q6.2).bind fun q7 => fX8_read_j126 this y2 y3 s0 q7.1 q7.2) else (fX8_read_j126 this y2 y3 s0 (0 : Int32) st)
def fX8_read (this : Nat) (a1 : Int32) (a2 : Int32) (st : zS) : Option (Int32 × zS) :=
  (zok spM st (some this) 8).bind fun o10 => zlet (zp st o10 19 ((160 : Int32) * a1)) fun st11 => (zok spM st11 (some this) 8).bind fun o12 => (zok spM st11 (st11.2.2.2 o12 2) 9).bind fun o13 => (zix spM o13 a1).bind fun j14 => (zok spM st11 (some this) 8).bind fun o15 => zlet (zp st11 o15 20 (st11.2.1 o13 j14)) fun st16 => (zok spM st16 (some this) 8).bind fun o17 => zlet (zp st16 o17 21 (0 : Int32)) fun st18 => (zok spM st18 (some this) 8).bind fun o19 => zlet (zp st18 o19 25 (0 : Int32)) fun st20 => (zok spM st20 (some this) 8).bind fun o21 => zlet (zp st20 o21 26 (0 : Int32)) fun st22 => (zok spM st22 (some this) 8).bind fun o34 => (fX8_next o34 st22).bind fun q23 => (zok spM q23.2 (some this) 8).bind fun o33 => (fX8_isWord o33 (103 : Int32) (105 : Int32) (118 : Int32) (101 : Int32) (115 : Int32) (0 : Int32) (0 : Int32) (0 : Int32) q23.2).bind fun q24 => (zok spM q24.2 (some this) 8).bind fun o32 => (fX8_part o32 q24.1 q24.2).bind fun q25 => zlet (q25.1) fun v26 => (zok spM q25.2 (some this) 8).bind fun o27 => if (q25.2.2.1 o27 26) = 0 then ((zok spM q25.2 (some this) 8).bind fun o31 => (fX8_isWord o31 (103 : Int32) (108 : Int32) (97 : Int32) (100 : Int32) (115 : Int32) (0 : Int32) (0 : Int32) (0 : Int32) q25.2).bind fun q28 => (zok spM q28.2 (some this) 8).bind fun o30 => (fX8_part o30 q28.1 q28.2).bind fun q29 => fX8_read_j92 this a2 v26 q29.1 q29.2) else (fX8_read_j92 this a2 v26 (0 : Int32) q25.2)
set_option maxRecDepth 100000 in
set_option maxHeartbeats 4000000 in
theorem kX8_read (l : Launch) (Z : zZ) (b : Nat) (x : Option Nat) (this : Nat) (a1 : Int32) (a2 : Int32) (st : zS) : zC l Z spM b x yX8_read (.code yX8_read cX8_read 6 (some .int)) (rmX8_read) rI [vP (some this), vI a1, vI a2] st (fX8_read this a1 a2 st) := by
  refine z_start (own := RX8) rfl (by decide +kernel) (Nat.le_of_ble_eq_true rfl) rfl (fun p e s m args below meth c res Q A X hK hr hlocks hQ => ?_)
  have J146 : ∀ (y2 : Int32) (y3 : Int32) (y4 : Int32) (y5 : Int32) (st : zS), zs p l e (rmX8_read) s m args below meth c Q Z spM b x A 6 0 0 res (fX8_read_j146 this y2 y3 y4 y5 st) 146 [(2, vI y2), (3, vI y3), (4, vI y4), (5, vI y5)] [] st := by
    intro y2 y3 y4 y5 st
    rw [fX8_read_j146]
    refine z_iload_n X (q := 0) dX8_read_146 rfl rfl ?_
    refine z_if_ne X (tgt := 154) dX8_read_147 (by decide) (fun _ => ?_) (fun _ => ?_)
    · refine z_iload_n X (q := 0) dX8_read_154 rfl rfl ?_
      refine z_iconst X (v := (1 : Int32)) dX8_read_155 (by decide) ?_
      refine z_icmp_ne X (tgt := 164) dX8_read_156 (by decide) (fun _ => ?_) (fun _ => ?_)
      · refine z_iload X (q := 3) dX8_read_164 rfl ?_
        subst hQ; exact z_iret X hlocks hr dX8_read_166
      · refine z_iload X (q := 2) dX8_read_159 rfl ?_
        refine z_goto X (tgt := 166) dX8_read_161 (by decide) ?_
        subst hQ; exact z_iret X hlocks hr dX8_read_166
    · refine z_iload_n X (q := 1) dX8_read_150 rfl rfl ?_
      refine z_goto X (tgt := 166) dX8_read_151 (by decide) ?_
      subst hQ; exact z_iret X hlocks hr dX8_read_166
  have J126 : ∀ (y2 : Int32) (y3 : Int32) (y4 : Int32) (s0 : Int32) (st : zS), zs p l e (rmX8_read) s m args below meth c Q Z spM b x A 6 0 0 res (fX8_read_j126 this y2 y3 y4 s0 st) 126 [(0, vP (some this)), (2, vI y2), (3, vI y3), (4, vI y4)] [vI s0] st := by
    intro y2 y3 y4 s0 st
    rw [fX8_read_j126]
    refine z_istore X dX8_read_126 (Nat.le_of_ble_eq_true rfl) rfl ?_
    refine z_aload_n X (q := 1) dX8_read_128 rfl rfl ?_
    refine z_geti X hK (N := 46) (ci := 8) (k := 26) rfl (by decide) inlX8 (by decide) hf_X8_155 rfl spM_X8 rfl dX8_read_129 (fun o1 _ => ?_)
    refine z_if_ne X (tgt := 146) dX8_read_132 (by decide) (fun _ => ?_) (fun _ => ?_)
    · exact z_sub [2, 3, 4, 0] (J146 _ _ _ _ _) rfl
    · refine z_aload_n X (q := 1) dX8_read_135 rfl rfl ?_
      refine z_geti X hK (N := 46) (ci := 8) (k := 22) rfl (by decide) inlX8 (by decide) hf_X8_138 rfl spM_X8 rfl dX8_read_136 (fun o2 _ => ?_)
      refine z_if_eq X (tgt := 146) dX8_read_139 (by decide) (fun _ => ?_) (fun _ => ?_)
      · exact z_sub [2, 3, 4, 0] (J146 _ _ _ _ _) rfl
      · refine z_aload_n X (q := 1) dX8_read_142 rfl rfl ?_
        refine z_callV X hK (As := []) (ci := 8) rfl (by decide) (fun o => (kX8_fail l Z  b x o _)) hk_X8_169 ⟨rfl, rfl⟩ hd_X8_fail ⟨Nat.le_of_ble_eq_true rfl, Nat.le_of_ble_eq_true rfl⟩ ⟨Nat.le_of_ble_eq_true rfl, Nat.le_of_ble_eq_true rfl⟩ rfl rfl (Nat.le_of_ble_eq_true rfl) dX8_read_143 (fun _ q3 _ => ?_)
        exact z_sub [2, 3, 4, 0] (J146 _ _ _ _ _) rfl
  have J92 : ∀ (y2 : Int32) (y3 : Int32) (s0 : Int32) (st : zS), zs p l e (rmX8_read) s m args below meth c Q Z spM b x A 6 0 0 res (fX8_read_j92 this y2 y3 s0 st) 92 [(0, vP (some this)), (2, vI y2), (3, vI y3)] [vI s0] st := by
    intro y2 y3 s0 st
    rw [fX8_read_j92]
    refine z_istore X dX8_read_92 (Nat.le_of_ble_eq_true rfl) rfl ?_
    refine z_aload_n X (q := 1) dX8_read_94 rfl rfl ?_
    refine z_geti X hK (N := 46) (ci := 8) (k := 26) rfl (by decide) inlX8 (by decide) hf_X8_155 rfl spM_X8 rfl dX8_read_95 (fun o5 _ => ?_)
    refine z_if_eq X (tgt := 105) dX8_read_98 (by decide) (fun _ => ?_) (fun _ => ?_)
    · refine z_aload_n X (q := 1) dX8_read_105 rfl rfl ?_
      refine z_aload_n X (q := 1) dX8_read_106 rfl rfl ?_
      refine z_bipush X (v := (99 : Int32)) dX8_read_107 (by decide) ?_
      refine z_bipush X (v := (111 : Int32)) dX8_read_109 (by decide) ?_
      refine z_bipush X (v := (115 : Int32)) dX8_read_111 (by decide) ?_
      refine z_bipush X (v := (116 : Int32)) dX8_read_113 (by decide) ?_
      refine z_bipush X (v := (115 : Int32)) dX8_read_115 (by decide) ?_
      refine z_iconst X (v := (0 : Int32)) dX8_read_117 (by decide) ?_
      refine z_iconst X (v := (0 : Int32)) dX8_read_118 (by decide) ?_
      refine z_iconst X (v := (0 : Int32)) dX8_read_119 (by decide) ?_
      refine z_callV X hK (As := [vI (99 : Int32), vI (111 : Int32), vI (115 : Int32), vI (116 : Int32), vI (115 : Int32), vI (0 : Int32), vI (0 : Int32), vI (0 : Int32)]) (ci := 8) rfl (by decide) (fun o => (kX8_isWord l Z  b x o _ _ _ _ _ _ _ _ _)) hk_X8_175 ⟨rfl, rfl⟩ hd_X8_isWord ⟨Nat.le_of_ble_eq_true rfl, Nat.le_of_ble_eq_true rfl⟩ ⟨Nat.le_of_ble_eq_true rfl, Nat.le_of_ble_eq_true rfl⟩ rfl rfl (Nat.le_of_ble_eq_true rfl) dX8_read_120 (fun _ q6 _ => ?_)
      refine z_callV X hK (As := [vI q6.1]) (ci := 8) rfl (by decide) (fun o => (kX8_part l Z  b x o _ _)) hk_X8_320 ⟨rfl, rfl⟩ hd_X8_part ⟨Nat.le_of_ble_eq_true rfl, Nat.le_of_ble_eq_true rfl⟩ ⟨Nat.le_of_ble_eq_true rfl, Nat.le_of_ble_eq_true rfl⟩ rfl rfl (Nat.le_of_ble_eq_true rfl) dX8_read_123 (fun _ q7 _ => ?_)
      exact z_sub [1, 2, 3, 0] (J126 _ _ _ _ _) rfl
    · refine z_iconst X (v := (0 : Int32)) dX8_read_101 (by decide) ?_
      refine z_goto X (tgt := 126) dX8_read_102 (by decide) ?_
      exact z_sub [1, 2, 3, 0] (J126 _ _ _ _ _) rfl
  rw [fX8_read]
  refine z_aload_n X (q := 0) dX8_read_0 rfl rfl ?_
  refine z_sipush X (v := (160 : Int32)) dX8_read_1 (by decide) ?_
  refine z_iload_n X (q := 1) dX8_read_4 rfl rfl ?_
  refine z_imul X dX8_read_5 ?_
  refine z_puti X hK (N := 46) (ci := 8) (k := 19) rfl (by decide) inlX8 tyX8 tyX8_ok nmX8 (by decide) hf_X8_126 rfl rfl spM_X8 rfl (by decide +kernel) dX8_read_6 (fun o10 st11 _ => ?_)
  refine z_aload_n X (q := 0) dX8_read_9 rfl rfl ?_
  refine z_aload_n X (q := 0) dX8_read_10 rfl rfl ?_
  refine z_getr X hK (N := 46) (ci := 8) (k := 2) rfl (by decide) inlX8 (by decide) hf_X8_17 rfl spM_X8 rfl dX8_read_11 (fun o12 _ => ?_)
  refine z_iload_n X (q := 1) dX8_read_14 rfl rfl ?_
  refine z_iald X hK dX8_read_15 (fun o13 j14 _ _ => ?_)
  refine z_puti X hK (N := 46) (ci := 8) (k := 20) rfl (by decide) inlX8 tyX8 tyX8_ok nmX8 (by decide) hf_X8_123 rfl rfl spM_X8 rfl (by decide +kernel) dX8_read_16 (fun o15 st16 _ => ?_)
  refine z_aload_n X (q := 0) dX8_read_19 rfl rfl ?_
  refine z_iconst X (v := (0 : Int32)) dX8_read_20 (by decide) ?_
  refine z_puti X hK (N := 46) (ci := 8) (k := 21) rfl (by decide) inlX8 tyX8 tyX8_ok nmX8 (by decide) hf_X8_129 rfl rfl spM_X8 rfl (by decide +kernel) dX8_read_21 (fun o17 st18 _ => ?_)
  refine z_aload_n X (q := 0) dX8_read_24 rfl rfl ?_
  refine z_iconst X (v := (0 : Int32)) dX8_read_25 (by decide) ?_
  refine z_puti X hK (N := 46) (ci := 8) (k := 25) rfl (by decide) inlX8 tyX8 tyX8_ok nmX8 (by decide) hf_X8_166 rfl rfl spM_X8 rfl (by decide +kernel) dX8_read_26 (fun o19 st20 _ => ?_)
  refine z_aload_n X (q := 0) dX8_read_29 rfl rfl ?_
  refine z_iconst X (v := (0 : Int32)) dX8_read_30 (by decide) ?_
  refine z_putz X hK (N := 46) (ci := 8) (k := 26) rfl (by decide) inlX8 tyX8 tyX8_ok nmX8 (by decide) hf_X8_155 rfl rfl spM_X8 rfl (by decide +kernel) rfl rfl dX8_read_31 (fun o21 st22 _ => ?_)
  refine z_aload_n X (q := 0) dX8_read_34 rfl rfl ?_
  refine z_callV X hK (As := []) (ci := 8) rfl (by decide) (fun o => (kX8_next l Z  b x o _)) hk_X8_172 ⟨rfl, rfl⟩ hd_X8_next ⟨Nat.le_of_ble_eq_true rfl, Nat.le_of_ble_eq_true rfl⟩ ⟨Nat.le_of_ble_eq_true rfl, Nat.le_of_ble_eq_true rfl⟩ rfl rfl (Nat.le_of_ble_eq_true rfl) dX8_read_35 (fun _ q23 _ => ?_)
  refine z_aload_n X (q := 0) dX8_read_38 rfl rfl ?_
  refine z_aload_n X (q := 0) dX8_read_39 rfl rfl ?_
  refine z_bipush X (v := (103 : Int32)) dX8_read_40 (by decide) ?_
  refine z_bipush X (v := (105 : Int32)) dX8_read_42 (by decide) ?_
  refine z_bipush X (v := (118 : Int32)) dX8_read_44 (by decide) ?_
  refine z_bipush X (v := (101 : Int32)) dX8_read_46 (by decide) ?_
  refine z_bipush X (v := (115 : Int32)) dX8_read_48 (by decide) ?_
  refine z_iconst X (v := (0 : Int32)) dX8_read_50 (by decide) ?_
  refine z_iconst X (v := (0 : Int32)) dX8_read_51 (by decide) ?_
  refine z_iconst X (v := (0 : Int32)) dX8_read_52 (by decide) ?_
  refine z_callV X hK (As := [vI (103 : Int32), vI (105 : Int32), vI (118 : Int32), vI (101 : Int32), vI (115 : Int32), vI (0 : Int32), vI (0 : Int32), vI (0 : Int32)]) (ci := 8) rfl (by decide) (fun o => (kX8_isWord l Z  b x o _ _ _ _ _ _ _ _ _)) hk_X8_175 ⟨rfl, rfl⟩ hd_X8_isWord ⟨Nat.le_of_ble_eq_true rfl, Nat.le_of_ble_eq_true rfl⟩ ⟨Nat.le_of_ble_eq_true rfl, Nat.le_of_ble_eq_true rfl⟩ rfl rfl (Nat.le_of_ble_eq_true rfl) dX8_read_53 (fun _ q24 _ => ?_)
  refine z_callV X hK (As := [vI q24.1]) (ci := 8) rfl (by decide) (fun o => (kX8_part l Z  b x o _ _)) hk_X8_320 ⟨rfl, rfl⟩ hd_X8_part ⟨Nat.le_of_ble_eq_true rfl, Nat.le_of_ble_eq_true rfl⟩ ⟨Nat.le_of_ble_eq_true rfl, Nat.le_of_ble_eq_true rfl⟩ rfl rfl (Nat.le_of_ble_eq_true rfl) dX8_read_56 (fun _ q25 _ => ?_)
  refine z_name (fun v26 => ?_)
  refine z_istore_n X dX8_read_59 rfl (Nat.le_of_ble_eq_true rfl) rfl ?_
  refine z_aload_n X (q := 1) dX8_read_60 rfl rfl ?_
  refine z_geti X hK (N := 46) (ci := 8) (k := 26) rfl (by decide) inlX8 (by decide) hf_X8_155 rfl spM_X8 rfl dX8_read_61 (fun o27 _ => ?_)
  refine z_if_eq X (tgt := 71) dX8_read_64 (by decide) (fun _ => ?_) (fun _ => ?_)
  · refine z_aload_n X (q := 1) dX8_read_71 rfl rfl ?_
    refine z_aload_n X (q := 1) dX8_read_72 rfl rfl ?_
    refine z_bipush X (v := (103 : Int32)) dX8_read_73 (by decide) ?_
    refine z_bipush X (v := (108 : Int32)) dX8_read_75 (by decide) ?_
    refine z_bipush X (v := (97 : Int32)) dX8_read_77 (by decide) ?_
    refine z_bipush X (v := (100 : Int32)) dX8_read_79 (by decide) ?_
    refine z_bipush X (v := (115 : Int32)) dX8_read_81 (by decide) ?_
    refine z_iconst X (v := (0 : Int32)) dX8_read_83 (by decide) ?_
    refine z_iconst X (v := (0 : Int32)) dX8_read_84 (by decide) ?_
    refine z_iconst X (v := (0 : Int32)) dX8_read_85 (by decide) ?_
    refine z_callV X hK (As := [vI (103 : Int32), vI (108 : Int32), vI (97 : Int32), vI (100 : Int32), vI (115 : Int32), vI (0 : Int32), vI (0 : Int32), vI (0 : Int32)]) (ci := 8) rfl (by decide) (fun o => (kX8_isWord l Z  b x o _ _ _ _ _ _ _ _ _)) hk_X8_175 ⟨rfl, rfl⟩ hd_X8_isWord ⟨Nat.le_of_ble_eq_true rfl, Nat.le_of_ble_eq_true rfl⟩ ⟨Nat.le_of_ble_eq_true rfl, Nat.le_of_ble_eq_true rfl⟩ rfl rfl (Nat.le_of_ble_eq_true rfl) dX8_read_86 (fun _ q28 _ => ?_)
    refine z_callV X hK (As := [vI q28.1]) (ci := 8) rfl (by decide) (fun o => (kX8_part l Z  b x o _ _)) hk_X8_320 ⟨rfl, rfl⟩ hd_X8_part ⟨Nat.le_of_ble_eq_true rfl, Nat.le_of_ble_eq_true rfl⟩ ⟨Nat.le_of_ble_eq_true rfl, Nat.le_of_ble_eq_true rfl⟩ rfl rfl (Nat.le_of_ble_eq_true rfl) dX8_read_89 (fun _ q29 _ => ?_)
    exact z_sub [1, 3, 0] (J92 _ _ _ _) rfl
  · refine z_iconst X (v := (0 : Int32)) dX8_read_67 (by decide) ?_
    refine z_goto X (tgt := 92) dX8_read_68 (by decide) ?_
    exact z_sub [1, 3, 0] (J92 _ _ _ _) rfl
abbrev rmX8_within : Room := { frames := 1, cells := 0, slots := 0, locals := 40 }
def fX8_within (a0 : Int32) (a1 : Int32) (a2 : Int32) (st : zS) : Option (Int32 × zS) :=
  if a1 ≤ a0 then (if a0 ≤ a2 then (some (a0, st)) else (some (a2, st))) else (some (a1, st))
set_option maxRecDepth 100000 in
set_option maxHeartbeats 4000000 in
theorem kX8_within (l : Launch) (Z : zZ) (b : Nat) (x : Option Nat) (a0 : Int32) (a1 : Int32) (a2 : Int32) (st : zS) : zC l Z spM b x yX8_within (.code yX8_within cX8_within 3 (some .int)) (rmX8_within) rI [vI a0, vI a1, vI a2] st (fX8_within a0 a1 a2 st) := by
  refine z_start (own := RX8) rfl (by decide +kernel) (Nat.le_of_ble_eq_true rfl) rfl (fun p e s m args below meth c res Q A X hK hr hlocks hQ => ?_)
  rw [fX8_within]
  refine z_iload_n X (q := 0) dX8_within_0 rfl rfl ?_
  refine z_iload_n X (q := 1) dX8_within_1 rfl rfl ?_
  refine z_icmp_ge X (tgt := 9) dX8_within_2 (by decide) (fun _ => ?_) (fun _ => ?_)
  · refine z_iload_n X (q := 0) dX8_within_9 rfl rfl ?_
    refine z_iload_n X (q := 2) dX8_within_10 rfl rfl ?_
    refine z_icmp_le X (tgt := 18) dX8_within_11 (by decide) (fun _ => ?_) (fun _ => ?_)
    · refine z_iload_n X (q := 0) dX8_within_18 rfl rfl ?_
      subst hQ; exact z_iret X hlocks hr dX8_within_19
    · refine z_iload_n X (q := 2) dX8_within_14 rfl rfl ?_
      refine z_goto X (tgt := 19) dX8_within_15 (by decide) ?_
      subst hQ; exact z_iret X hlocks hr dX8_within_19
  · refine z_iload_n X (q := 1) dX8_within_5 rfl rfl ?_
    refine z_goto X (tgt := 19) dX8_within_6 (by decide) ?_
    subst hQ; exact z_iret X hlocks hr dX8_within_19
theorem zw_724 : Cond.methodLink RX8 324 yX8_read ∈ wsL_law := zr_11 _ (by decide +kernel)
theorem zw_725 : Cond.instanceMethod yX8_read ∈ wsL_law := zr_11 _ (by decide +kernel)
theorem zw_726 : Cond.selects RX8 yX8_read yX8_read ∈ wsL_law := zr_11 _ (by decide +kernel)
theorem zw_727 : Cond.code yX8_read cX8_read 6 (some .int) ∈ wsL_law := zr_11 _ (by decide +kernel)
theorem hk_X8_324 : ∀ w ∈ ([Cond.methodLink RX8 324 yX8_read, Cond.instanceMethod yX8_read, Cond.selects RX8 yX8_read yX8_read, Cond.initialized RX8, Cond.code yX8_read cX8_read 6 (some .int)] : List Cond), w ∈ wsL_law := List.forall_mem_cons.mpr ⟨zw_724, List.forall_mem_cons.mpr ⟨zw_725, List.forall_mem_cons.mpr ⟨zw_726, List.forall_mem_cons.mpr ⟨zw_525, List.forall_mem_cons.mpr ⟨zw_727, fun _ h => absurd h List.not_mem_nil⟩⟩⟩⟩⟩
theorem zw_728 : Cond.methodLink RX8 327 yX8_within ∈ wsL_law := zr_19 _ (by decide +kernel)
theorem zw_729 : Cond.static yX8_within ∈ wsL_law := zr_19 _ (by decide +kernel)
theorem zw_730 : Cond.code yX8_within cX8_within 3 (some .int) ∈ wsL_law := zr_19 _ (by decide +kernel)
theorem hk_X8_327 : ∀ w ∈ ([Cond.methodLink RX8 327 yX8_within, Cond.static yX8_within, Cond.initialized RX8, Cond.code yX8_within cX8_within 3 (some .int)] : List Cond), w ∈ wsL_law := List.forall_mem_cons.mpr ⟨zw_728, List.forall_mem_cons.mpr ⟨zw_729, List.forall_mem_cons.mpr ⟨zw_525, List.forall_mem_cons.mpr ⟨zw_730, fun _ h => absurd h List.not_mem_nil⟩⟩⟩⟩
theorem zw_731 : Cond.methodLink RX8 63 yX8_bitsOf ∈ wsL_law := zr_6 _ (by decide +kernel)
theorem zw_732 : Cond.static yX8_bitsOf ∈ wsL_law := zr_6 _ (by decide +kernel)
theorem zw_733 : Cond.code yX8_bitsOf cX8_bitsOf 3 (some .int) ∈ wsL_law := zr_6 _ (by decide +kernel)
theorem hk_X8_63 : ∀ w ∈ ([Cond.methodLink RX8 63 yX8_bitsOf, Cond.static yX8_bitsOf, Cond.initialized RX8, Cond.code yX8_bitsOf cX8_bitsOf 3 (some .int)] : List Cond), w ∈ wsL_law := List.forall_mem_cons.mpr ⟨zw_731, List.forall_mem_cons.mpr ⟨zw_732, List.forall_mem_cons.mpr ⟨zw_525, List.forall_mem_cons.mpr ⟨zw_733, fun _ h => absurd h List.not_mem_nil⟩⟩⟩⟩
theorem hd_X8_bitsOf : yX8_bitsOf.cls = RX8 ∧ yX8_bitsOf.cls ≠ "java/lang/invoke/MethodHandle" ∧ yX8_bitsOf.cls ≠ "java/lang/invoke/VarHandle" ∧ (parseMethodDescriptor yX8_bitsOf.desc).map (fun d => d.parameters.length) = some 1 := by decide +kernel
theorem hd_X8_read : yX8_read.cls = RX8 ∧ yX8_read.cls ≠ "java/lang/invoke/MethodHandle" ∧ yX8_read.cls ≠ "java/lang/invoke/VarHandle" ∧ (parseMethodDescriptor yX8_read.desc).map (fun d => d.parameters.length) = some 2 := by decide +kernel
theorem hd_X8_within : yX8_within.cls = RX8 ∧ yX8_within.cls ≠ "java/lang/invoke/MethodHandle" ∧ yX8_within.cls ≠ "java/lang/invoke/VarHandle" ∧ (parseMethodDescriptor yX8_within.desc).map (fun d => d.parameters.length) = some 3 := by decide +kernel
theorem zw_734 : Cond.fieldLink RX8 103 "WellGivesOtherModel" "dayNow" "I" ∈ wsL_law := zr_9 _ (by decide +kernel)
theorem hf_X8_103 : Cond.fieldLink RX8 103 "WellGivesOtherModel" "dayNow" "I" ∈ wsL_law := zw_734
theorem zw_735 : Cond.fieldLink RX8 106 "WellGivesOtherModel" "rule" "I" ∈ wsL_law := zr_11 _ (by decide +kernel)
theorem hf_X8_106 : Cond.fieldLink RX8 106 "WellGivesOtherModel" "rule" "I" ∈ wsL_law := zw_735
theorem zw_736 : Cond.fieldLink RX8 29 "WellGivesOtherModel" "rows" "[I" ∈ wsL_law := zr_6 _ (by decide +kernel)
theorem hf_X8_29 : Cond.fieldLink RX8 29 "WellGivesOtherModel" "rows" "[I" ∈ wsL_law := zw_736
abbrev rmX8_says : Room := { frames := 43, cells := 0, slots := 0, locals := 970 }
def fX8_says_j74 (this : Nat) (s0 : Int32) (s1 : Int32) (st : zS) : Option (Int32 × zS) :=
  (fX8_within s0 s1 (99 : Int32) st).bind fun q1 => some (q1.1, q1.2)
def fX8_says (this : Nat) (a1 : Int32) (a2 : Int32) (a3 : Int32) (a4 : Int32) (a5 : Int32) (st : zS) : Option (Int32 × zS) :=
  (zok spM st (some this) 8).bind fun o2 => zlet (zp st o2 13 a3) fun st3 => (zok spM st3 (some this) 8).bind fun o4 => zlet (zp st3 o4 14 a4) fun st5 => (zok spM st5 (some this) 8).bind fun o6 => zlet (zp st5 o6 15 a5) fun st7 => (zok spM st7 (some this) 8).bind fun o8 => (zok spM st7 (st7.2.2.2 o8 10) 9).bind fun o9 => (zix spM o9 ((4 : Int32) * a2)).bind fun j10 => (zok spM st7 (some this) 8).bind fun o11 => zlet (zp st7 o11 16 (st7.2.1 o9 j10)) fun st12 => (zok spM st12 (some this) 8).bind fun o13 => (zok spM st12 (some this) 8).bind fun o14 => zlet (zp st12 o14 17 (st12.2.1 o13 7)) fun st15 => (zok spM st15 (some this) 8).bind fun o16 => (zok spM st15 (st15.2.2.2 o16 10) 9).bind fun o17 => (zix spM o17 (((4 : Int32) * a2) + (2 : Int32))).bind fun j18 => (fX8_bitsOf (st15.2.1 o17 j18) st15).bind fun q19 => (zok spM q19.2 (some this) 8).bind fun o20 => zlet (zp q19.2 o20 18 q19.1) fun st21 => (zok spM st21 (some this) 8).bind fun o22 => (zok spM st21 (some this) 8).bind fun o24 => (fX8_read o24 (st21.2.1 o22 4) a1 st21).bind fun q23 => if a1 = (2 : Int32) then (fX8_says_j74 this q23.1 (0 : Int32) q23.2) else (fX8_says_j74 this q23.1 (-99 : Int32) q23.2)
set_option maxRecDepth 100000 in
set_option maxHeartbeats 4000000 in
theorem kX8_says (l : Launch) (Z : zZ) (b : Nat) (x : Option Nat) (this : Nat) (a1 : Int32) (a2 : Int32) (a3 : Int32) (a4 : Int32) (a5 : Int32) (st : zS) : zC l Z spM b x yX8_says (.code yX8_says cX8_says 6 (some .int)) (rmX8_says) rI [vP (some this), vI a1, vI a2, vI a3, vI a4, vI a5] st (fX8_says this a1 a2 a3 a4 a5 st) := by
  refine z_start (own := RX8) rfl (by decide +kernel) (Nat.le_of_ble_eq_true rfl) rfl (fun p e s m args below meth c res Q A X hK hr hlocks hQ => ?_)
  have J74 : ∀ (s0 : Int32) (s1 : Int32) (st : zS), zs p l e (rmX8_says) s m args below meth c Q Z spM b x A 6 0 0 res (fX8_says_j74 this s0 s1 st) 74 [] [vI s1, vI s0] st := by
    intro s0 s1 st
    rw [fX8_says_j74]
    refine z_bipush X (v := (99 : Int32)) dX8_says_74 (by decide) ?_
    refine z_callS X hK (As := [vI s0, vI s1, vI (99 : Int32)]) (kX8_within l Z  b x _ _ _ _) hk_X8_327 ⟨rfl, rfl⟩ hd_X8_within.2 ⟨Nat.le_of_ble_eq_true rfl, Nat.le_of_ble_eq_true rfl⟩ ⟨Nat.le_of_ble_eq_true rfl, Nat.le_of_ble_eq_true rfl⟩ rfl rfl (Nat.le_of_ble_eq_true rfl) dX8_says_76 (fun q1 => ?_)
    subst hQ; exact z_iret X hlocks hr dX8_says_79
  rw [fX8_says]
  refine z_aload_n X (q := 0) dX8_says_0 rfl rfl ?_
  refine z_iload_n X (q := 3) dX8_says_1 rfl rfl ?_
  refine z_puti X hK (N := 46) (ci := 8) (k := 13) rfl (by decide) inlX8 tyX8 tyX8_ok nmX8 (by decide) hf_X8_179 rfl rfl spM_X8 rfl (by decide +kernel) dX8_says_2 (fun o2 st3 _ => ?_)
  refine z_aload_n X (q := 0) dX8_says_5 rfl rfl ?_
  refine z_iload X (q := 4) dX8_says_6 rfl ?_
  refine z_puti X hK (N := 46) (ci := 8) (k := 14) rfl (by decide) inlX8 tyX8 tyX8_ok nmX8 (by decide) hf_X8_182 rfl rfl spM_X8 rfl (by decide +kernel) dX8_says_8 (fun o4 st5 _ => ?_)
  refine z_aload_n X (q := 0) dX8_says_11 rfl rfl ?_
  refine z_iload X (q := 5) dX8_says_12 rfl ?_
  refine z_puti X hK (N := 46) (ci := 8) (k := 15) rfl (by decide) inlX8 tyX8 tyX8_ok nmX8 (by decide) hf_X8_185 rfl rfl spM_X8 rfl (by decide +kernel) dX8_says_14 (fun o6 st7 _ => ?_)
  refine z_aload_n X (q := 0) dX8_says_17 rfl rfl ?_
  refine z_aload_n X (q := 0) dX8_says_18 rfl rfl ?_
  refine z_getr X hK (N := 46) (ci := 8) (k := 10) rfl (by decide) inlX8 (by decide) hf_X8_29 rfl spM_X8 rfl dX8_says_19 (fun o8 _ => ?_)
  refine z_iconst X (v := (4 : Int32)) dX8_says_22 (by decide) ?_
  refine z_iload_n X (q := 2) dX8_says_23 rfl rfl ?_
  refine z_imul X dX8_says_24 ?_
  refine z_iald X hK dX8_says_25 (fun o9 j10 _ _ => ?_)
  refine z_puti X hK (N := 46) (ci := 8) (k := 16) rfl (by decide) inlX8 tyX8 tyX8_ok nmX8 (by decide) hf_X8_188 rfl rfl spM_X8 rfl (by decide +kernel) dX8_says_26 (fun o11 st12 _ => ?_)
  refine z_aload_n X (q := 0) dX8_says_29 rfl rfl ?_
  refine z_aload_n X (q := 0) dX8_says_30 rfl rfl ?_
  refine z_geti X hK (N := 46) (ci := 8) (k := 7) rfl (by decide) inlX8 (by decide) hf_X8_103 rfl spM_X8 rfl dX8_says_31 (fun o13 _ => ?_)
  refine z_puti X hK (N := 46) (ci := 8) (k := 17) rfl (by decide) inlX8 tyX8 tyX8_ok nmX8 (by decide) hf_X8_191 rfl rfl spM_X8 rfl (by decide +kernel) dX8_says_34 (fun o14 st15 _ => ?_)
  refine z_aload_n X (q := 0) dX8_says_37 rfl rfl ?_
  refine z_aload_n X (q := 0) dX8_says_38 rfl rfl ?_
  refine z_getr X hK (N := 46) (ci := 8) (k := 10) rfl (by decide) inlX8 (by decide) hf_X8_29 rfl spM_X8 rfl dX8_says_39 (fun o16 _ => ?_)
  refine z_iconst X (v := (4 : Int32)) dX8_says_42 (by decide) ?_
  refine z_iload_n X (q := 2) dX8_says_43 rfl rfl ?_
  refine z_imul X dX8_says_44 ?_
  refine z_iconst X (v := (2 : Int32)) dX8_says_45 (by decide) ?_
  refine z_iadd X dX8_says_46 ?_
  refine z_iald X hK dX8_says_47 (fun o17 j18 _ _ => ?_)
  refine z_callS X hK (As := [vI (st15.2.1 o17 j18)]) (kX8_bitsOf l Z  b x _ _) hk_X8_63 ⟨rfl, rfl⟩ hd_X8_bitsOf.2 ⟨Nat.le_of_ble_eq_true rfl, Nat.le_of_ble_eq_true rfl⟩ ⟨Nat.le_of_ble_eq_true rfl, Nat.le_of_ble_eq_true rfl⟩ rfl rfl (Nat.le_of_ble_eq_true rfl) dX8_says_48 (fun q19 => ?_)
  refine z_puti X hK (N := 46) (ci := 8) (k := 18) rfl (by decide) inlX8 tyX8 tyX8_ok nmX8 (by decide) hf_X8_194 rfl rfl spM_X8 rfl (by decide +kernel) dX8_says_51 (fun o20 st21 _ => ?_)
  refine z_aload_n X (q := 0) dX8_says_54 rfl rfl ?_
  refine z_aload_n X (q := 0) dX8_says_55 rfl rfl ?_
  refine z_geti X hK (N := 46) (ci := 8) (k := 4) rfl (by decide) inlX8 (by decide) hf_X8_106 rfl spM_X8 rfl dX8_says_56 (fun o22 _ => ?_)
  refine z_iload_n X (q := 1) dX8_says_59 rfl rfl ?_
  refine z_callV X hK (As := [vI (st21.2.1 o22 4), vI a1]) (ci := 8) rfl (by decide) (fun o => (kX8_read l Z  b x o _ _ _)) hk_X8_324 ⟨rfl, rfl⟩ hd_X8_read ⟨Nat.le_of_ble_eq_true rfl, Nat.le_of_ble_eq_true rfl⟩ ⟨Nat.le_of_ble_eq_true rfl, Nat.le_of_ble_eq_true rfl⟩ rfl rfl (Nat.le_of_ble_eq_true rfl) dX8_says_60 (fun _ q23 _ => ?_)
  refine z_iload_n X (q := 1) dX8_says_63 rfl rfl ?_
  refine z_iconst X (v := (2 : Int32)) dX8_says_64 (by decide) ?_
  refine z_icmp_ne X (tgt := 72) dX8_says_65 (by decide) (fun _ => ?_) (fun _ => ?_)
  · refine z_bipush X (v := (-99 : Int32)) dX8_says_72 (by decide) ?_
    exact z_sub [] (J74 _ _ _) rfl
  · refine z_iconst X (v := (0 : Int32)) dX8_says_68 (by decide) ?_
    refine z_goto X (tgt := 74) dX8_says_69 (by decide) ?_
    exact z_sub [] (J74 _ _ _) rfl
theorem zw_737 : Cond.methodLink RX8 343 yX8_says ∈ wsL_law := zr_10 _ (by decide +kernel)
theorem zw_738 : Cond.instanceMethod yX8_says ∈ wsL_law := zr_10 _ (by decide +kernel)
theorem zw_739 : Cond.selects RX8 yX8_says yX8_says ∈ wsL_law := zr_10 _ (by decide +kernel)
theorem zw_740 : Cond.code yX8_says cX8_says 6 (some .int) ∈ wsL_law := zr_10 _ (by decide +kernel)
theorem hk_X8_343 : ∀ w ∈ ([Cond.methodLink RX8 343 yX8_says, Cond.instanceMethod yX8_says, Cond.selects RX8 yX8_says yX8_says, Cond.initialized RX8, Cond.code yX8_says cX8_says 6 (some .int)] : List Cond), w ∈ wsL_law := List.forall_mem_cons.mpr ⟨zw_737, List.forall_mem_cons.mpr ⟨zw_738, List.forall_mem_cons.mpr ⟨zw_739, List.forall_mem_cons.mpr ⟨zw_525, List.forall_mem_cons.mpr ⟨zw_740, fun _ h => absurd h List.not_mem_nil⟩⟩⟩⟩⟩
theorem hd_X8_says : yX8_says.cls = RX8 ∧ yX8_says.cls ≠ "java/lang/invoke/MethodHandle" ∧ yX8_says.cls ≠ "java/lang/invoke/VarHandle" ∧ (parseMethodDescriptor yX8_says.desc).map (fun d => d.parameters.length) = some 5 := by decide +kernel
abbrev rmX8_costsOf : Room := { frames := 44, cells := 0, slots := 0, locals := 995 }
def fX8_costsOf (this : Nat) (a1 : Int32) (a2 : Int32) (st : zS) : Option (Int32 × zS) :=
  (fX8_bitsOf a2 st).bind fun q1 => (zok spM q1.2 (some this) 8).bind fun o3 => (fX8_says o3 (2 : Int32) a1 (0 : Int32) q1.1 (0 : Int32) q1.2).bind fun q2 => some (q2.1, q2.2)
set_option maxRecDepth 100000 in
set_option maxHeartbeats 4000000 in
theorem kX8_costsOf (l : Launch) (Z : zZ) (b : Nat) (x : Option Nat) (this : Nat) (a1 : Int32) (a2 : Int32) (st : zS) : zC l Z spM b x yX8_costsOf (.code yX8_costsOf cX8_costsOf 3 (some .int)) (rmX8_costsOf) rI [vP (some this), vI a1, vI a2] st (fX8_costsOf this a1 a2 st) := by
  refine z_start (own := RX8) rfl (by decide +kernel) (Nat.le_of_ble_eq_true rfl) rfl (fun p e s m args below meth c res Q A X hK hr hlocks hQ => ?_)
  rw [fX8_costsOf]
  refine z_aload_n X (q := 0) dX8_costsOf_0 rfl rfl ?_
  refine z_iconst X (v := (2 : Int32)) dX8_costsOf_1 (by decide) ?_
  refine z_iload_n X (q := 1) dX8_costsOf_2 rfl rfl ?_
  refine z_iconst X (v := (0 : Int32)) dX8_costsOf_3 (by decide) ?_
  refine z_iload_n X (q := 2) dX8_costsOf_4 rfl rfl ?_
  refine z_callS X hK (As := [vI a2]) (kX8_bitsOf l Z  b x _ _) hk_X8_63 ⟨rfl, rfl⟩ hd_X8_bitsOf.2 ⟨Nat.le_of_ble_eq_true rfl, Nat.le_of_ble_eq_true rfl⟩ ⟨Nat.le_of_ble_eq_true rfl, Nat.le_of_ble_eq_true rfl⟩ rfl rfl (Nat.le_of_ble_eq_true rfl) dX8_costsOf_5 (fun q1 => ?_)
  refine z_iconst X (v := (0 : Int32)) dX8_costsOf_8 (by decide) ?_
  refine z_callV X hK (As := [vI (2 : Int32), vI a1, vI (0 : Int32), vI q1.1, vI (0 : Int32)]) (ci := 8) rfl (by decide) (fun o => (kX8_says l Z  b x o _ _ _ _ _ _)) hk_X8_343 ⟨rfl, rfl⟩ hd_X8_says ⟨Nat.le_of_ble_eq_true rfl, Nat.le_of_ble_eq_true rfl⟩ ⟨Nat.le_of_ble_eq_true rfl, Nat.le_of_ble_eq_true rfl⟩ rfl rfl (Nat.le_of_ble_eq_true rfl) dX8_costsOf_9 (fun _ q2 _ => ?_)
  subst hQ; exact z_iret X hlocks hr dX8_costsOf_12
abbrev rmX8_modulo : Room := { frames := 1, cells := 0, slots := 0, locals := 40 }
def fX8_modulo (a0 : Int32) (a1 : Int32) (st : zS) : Option (Int32 × zS) :=
  if a1 = 0 then none else if 0 ≤ (a0 - a0 / a1 * a1) then (if a1 = 0 then none else some ((a0 - a0 / a1 * a1), st)) else (if a1 = 0 then none else some (((a0 - a0 / a1 * a1) + a1), st))
set_option maxRecDepth 100000 in
set_option maxHeartbeats 4000000 in
theorem kX8_modulo (l : Launch) (Z : zZ) (b : Nat) (x : Option Nat) (a0 : Int32) (a1 : Int32) (st : zS) : zC l Z spM b x yX8_modulo (.code yX8_modulo cX8_modulo 2 (some .int)) (rmX8_modulo) rI [vI a0, vI a1] st (fX8_modulo a0 a1 st) := by
  refine z_start (own := RX8) rfl (by decide +kernel) (Nat.le_of_ble_eq_true rfl) rfl (fun p e s m args below meth c res Q A X hK hr hlocks hQ => ?_)
  rw [fX8_modulo]
  refine z_iload_n X (q := 0) dX8_modulo_0 rfl rfl ?_
  refine z_iload_n X (q := 1) dX8_modulo_1 rfl rfl ?_
  refine z_irem X dX8_modulo_2 (fun _ => ?_)
  refine z_if_ge X (tgt := 14) dX8_modulo_3 (by decide) (fun _ => ?_) (fun _ => ?_)
  · refine z_iload_n X (q := 0) dX8_modulo_14 rfl rfl ?_
    refine z_iload_n X (q := 1) dX8_modulo_15 rfl rfl ?_
    refine z_irem X dX8_modulo_16 (fun _ => ?_)
    subst hQ; exact z_iret X hlocks hr dX8_modulo_17
  · refine z_iload_n X (q := 0) dX8_modulo_6 rfl rfl ?_
    refine z_iload_n X (q := 1) dX8_modulo_7 rfl rfl ?_
    refine z_irem X dX8_modulo_8 (fun _ => ?_)
    refine z_iload_n X (q := 1) dX8_modulo_9 rfl rfl ?_
    refine z_iadd X dX8_modulo_10 ?_
    refine z_goto X (tgt := 17) dX8_modulo_11 (by decide) ?_
    subst hQ; exact z_iret X hlocks hr dX8_modulo_17
theorem zw_741 : Cond.fieldLink RX8 23 "WellGivesOtherModel" "likes" "[I" ∈ wsL_law := zr_6 _ (by decide +kernel)
theorem hf_X8_23 : Cond.fieldLink RX8 23 "WellGivesOtherModel" "likes" "[I" ∈ wsL_law := zw_741
abbrev rmX8_likeAny : Room := { frames := 1, cells := 0, slots := 0, locals := 40 }
def fX8_likeAny_j30 (this : Nat) (k4 : Int32 → Int32 → Int32 → zS → Option (Int32 × zS)) (y1 : Int32) (y3 : Int32) (s0 : Int32) (s1 : Int32) (st : zS) : Option (Int32 × zS) :=
  zlet ((s0 ||| s1)) fun v1 => k4 y1 v1 (y3 + (1 : Int32)) st
def fX8_likeAny_L4 (this : Nat) : Nat → Int32 → Int32 → Int32 → zS → Option (Int32 × zS)
  | 0, _, _, _, _ => none
  | n + 1, y1, y2, y3, st => if (12 : Int32) ≤ y3 then (some (y2, st)) else (if ((y1 >>> (y3 &&& 31)) &&& (1 : Int32)) = (1 : Int32) then ((zok spM st (some this) 8).bind fun o2 => (zok spM st (st.2.2.2 o2 8) 9).bind fun o3 => (zix spM o3 y3).bind fun j4 => fX8_likeAny_j30 this (fX8_likeAny_L4 this n) y1 y3 y2 (st.2.1 o3 j4) st) else (fX8_likeAny_j30 this (fX8_likeAny_L4 this n) y1 y3 y2 (0 : Int32) st))
def fX8_likeAny (this : Nat) (a1 : Int32) (st : zS) : Option (Int32 × zS) :=
  fX8_likeAny_L4 this zF a1 (0 : Int32) (0 : Int32) st
set_option maxRecDepth 100000 in
set_option maxHeartbeats 4000000 in
theorem kX8_likeAny (l : Launch) (Z : zZ) (b : Nat) (x : Option Nat) (this : Nat) (a1 : Int32) (st : zS) : zC l Z spM b x yX8_likeAny (.code yX8_likeAny cX8_likeAny 4 (some .int)) (rmX8_likeAny) rI [vP (some this), vI a1] st (fX8_likeAny this a1 st) := by
  refine z_start (own := RX8) rfl (by decide +kernel) (Nat.le_of_ble_eq_true rfl) rfl (fun p e s m args below meth c res Q A X hK hr hlocks hQ => ?_)
  have J4 : ∀ (n4 : Nat) (y1 : Int32) (y2 : Int32) (y3 : Int32) (st : zS), zs p l e (rmX8_likeAny) s m args below meth c Q Z spM b x A 4 0 0 res (fX8_likeAny_L4 this n4 y1 y2 y3 st) 4 [(0, vP (some this)), (1, vI y1), (2, vI y2), (3, vI y3)] [] st := by
    intro n4
    induction n4 with
    | zero => intros; exact z_none
    | succ n4 ih4 =>
      have J30 : ∀ (y1 : Int32) (y3 : Int32) (s0 : Int32) (s1 : Int32) (st : zS), zs p l e (rmX8_likeAny) s m args below meth c Q Z spM b x A 4 0 0 res (fX8_likeAny_j30 this (fX8_likeAny_L4 this n4) y1 y3 s0 s1 st) 30 [(0, vP (some this)), (1, vI y1), (3, vI y3)] [vI s1, vI s0] st := by
        intro y1 y3 s0 s1 st
        rw [fX8_likeAny_j30]
        refine z_ior X dX8_likeAny_30 ?_
        refine z_name (fun v1 => ?_)
        refine z_istore_n X dX8_likeAny_31 rfl (Nat.le_of_ble_eq_true rfl) rfl ?_
        refine z_iinc X (q := 3) (y := y3 + (1 : Int32)) dX8_likeAny_32 rfl rfl (Nat.le_of_ble_eq_true rfl) rfl ?_
        refine z_goto X (tgt := 4) dX8_likeAny_35 (by decide) ?_
        exact z_sub [2, 3, 1, 0] (ih4 _ _ _ _) rfl
      intro y1 y2 y3 st
      rw [fX8_likeAny_L4]
      refine z_iload_n X (q := 3) dX8_likeAny_4 rfl rfl ?_
      refine z_bipush X (v := (12 : Int32)) dX8_likeAny_5 (by decide) ?_
      refine z_icmp_ge X (tgt := 38) dX8_likeAny_7 (by decide) (fun _ => ?_) (fun _ => ?_)
      · refine z_iload_n X (q := 2) dX8_likeAny_38 rfl rfl ?_
        subst hQ; exact z_iret X hlocks hr dX8_likeAny_39
      · refine z_iload_n X (q := 2) dX8_likeAny_10 rfl rfl ?_
        refine z_iload_n X (q := 1) dX8_likeAny_11 rfl rfl ?_
        refine z_iload_n X (q := 3) dX8_likeAny_12 rfl rfl ?_
        refine z_ishr X dX8_likeAny_13 ?_
        refine z_iconst X (v := (1 : Int32)) dX8_likeAny_14 (by decide) ?_
        refine z_iand X dX8_likeAny_15 ?_
        refine z_iconst X (v := (1 : Int32)) dX8_likeAny_16 (by decide) ?_
        refine z_icmp_ne X (tgt := 29) dX8_likeAny_17 (by decide) (fun _ => ?_) (fun _ => ?_)
        · refine z_iconst X (v := (0 : Int32)) dX8_likeAny_29 (by decide) ?_
          exact z_sub [0, 1, 3] (J30 _ _ _ _ _) rfl
        · refine z_aload_n X (q := 0) dX8_likeAny_20 rfl rfl ?_
          refine z_getr X hK (N := 46) (ci := 8) (k := 8) rfl (by decide) inlX8 (by decide) hf_X8_23 rfl spM_X8 rfl dX8_likeAny_21 (fun o2 _ => ?_)
          refine z_iload_n X (q := 3) dX8_likeAny_24 rfl rfl ?_
          refine z_iald X hK dX8_likeAny_25 (fun o3 j4 _ _ => ?_)
          refine z_goto X (tgt := 30) dX8_likeAny_26 (by decide) ?_
          exact z_sub [0, 1, 3] (J30 _ _ _ _ _) rfl
  rw [fX8_likeAny]
  refine z_iconst X (v := (0 : Int32)) dX8_likeAny_0 (by decide) ?_
  refine z_istore_n X dX8_likeAny_1 rfl (Nat.le_of_ble_eq_true rfl) rfl ?_
  refine z_iconst X (v := (0 : Int32)) dX8_likeAny_2 (by decide) ?_
  refine z_istore_n X dX8_likeAny_3 rfl (Nat.le_of_ble_eq_true rfl) rfl ?_
  exact z_sub [2, 3, 1, 0] (J4 _ _ _ _ _) rfl
abbrev rmX8_likeFew : Room := { frames := 2, cells := 0, slots := 0, locals := 62 }
def fX8_likeFew_j31 (this : Nat) (k4 : Int32 → Int32 → Int32 → zS → Option (Int32 × zS)) (y1 : Int32) (y3 : Int32) (s0 : Int32) (s1 : Int32) (st : zS) : Option (Int32 × zS) :=
  zlet ((s0 ||| (s1 <<< (y3 &&& 31)))) fun v1 => k4 y1 v1 (y3 + (1 : Int32)) st
def fX8_likeFew_L4 (this : Nat) : Nat → Int32 → Int32 → Int32 → zS → Option (Int32 × zS)
  | 0, _, _, _, _ => none
  | n + 1, y1, y2, y3, st => if (12 : Int32) ≤ y3 then (some (y2, st)) else ((zok spM st (some this) 8).bind fun o2 => (zok spM st (st.2.2.2 o2 8) 9).bind fun o3 => (zix spM o3 y3).bind fun j4 => (fX8_bitsOf ((st.2.1 o3 j4) &&& y1) st).bind fun q5 => if (2 : Int32) ≤ q5.1 then (fX8_likeFew_j31 this (fX8_likeFew_L4 this n) y1 y3 y2 (0 : Int32) q5.2) else (fX8_likeFew_j31 this (fX8_likeFew_L4 this n) y1 y3 y2 (1 : Int32) q5.2))
def fX8_likeFew (this : Nat) (a1 : Int32) (st : zS) : Option (Int32 × zS) :=
  fX8_likeFew_L4 this zF a1 (0 : Int32) (0 : Int32) st
set_option maxRecDepth 100000 in
set_option maxHeartbeats 4000000 in
theorem kX8_likeFew (l : Launch) (Z : zZ) (b : Nat) (x : Option Nat) (this : Nat) (a1 : Int32) (st : zS) : zC l Z spM b x yX8_likeFew (.code yX8_likeFew cX8_likeFew 4 (some .int)) (rmX8_likeFew) rI [vP (some this), vI a1] st (fX8_likeFew this a1 st) := by
  refine z_start (own := RX8) rfl (by decide +kernel) (Nat.le_of_ble_eq_true rfl) rfl (fun p e s m args below meth c res Q A X hK hr hlocks hQ => ?_)
  have J4 : ∀ (n4 : Nat) (y1 : Int32) (y2 : Int32) (y3 : Int32) (st : zS), zs p l e (rmX8_likeFew) s m args below meth c Q Z spM b x A 4 0 0 res (fX8_likeFew_L4 this n4 y1 y2 y3 st) 4 [(0, vP (some this)), (1, vI y1), (2, vI y2), (3, vI y3)] [] st := by
    intro n4
    induction n4 with
    | zero => intros; exact z_none
    | succ n4 ih4 =>
      have J31 : ∀ (y1 : Int32) (y3 : Int32) (s0 : Int32) (s1 : Int32) (st : zS), zs p l e (rmX8_likeFew) s m args below meth c Q Z spM b x A 4 0 0 res (fX8_likeFew_j31 this (fX8_likeFew_L4 this n4) y1 y3 s0 s1 st) 31 [(0, vP (some this)), (1, vI y1), (3, vI y3)] [vI s1, vI s0] st := by
        intro y1 y3 s0 s1 st
        rw [fX8_likeFew_j31]
        refine z_iload_n X (q := 2) dX8_likeFew_31 rfl rfl ?_
        refine z_ishl X dX8_likeFew_32 ?_
        refine z_ior X dX8_likeFew_33 ?_
        refine z_name (fun v1 => ?_)
        refine z_istore_n X dX8_likeFew_34 rfl (Nat.le_of_ble_eq_true rfl) rfl ?_
        refine z_iinc X (q := 3) (y := y3 + (1 : Int32)) dX8_likeFew_35 rfl rfl (Nat.le_of_ble_eq_true rfl) rfl ?_
        refine z_goto X (tgt := 4) dX8_likeFew_38 (by decide) ?_
        exact z_sub [2, 3, 1, 0] (ih4 _ _ _ _) rfl
      intro y1 y2 y3 st
      rw [fX8_likeFew_L4]
      refine z_iload_n X (q := 3) dX8_likeFew_4 rfl rfl ?_
      refine z_bipush X (v := (12 : Int32)) dX8_likeFew_5 (by decide) ?_
      refine z_icmp_ge X (tgt := 41) dX8_likeFew_7 (by decide) (fun _ => ?_) (fun _ => ?_)
      · refine z_iload_n X (q := 2) dX8_likeFew_41 rfl rfl ?_
        subst hQ; exact z_iret X hlocks hr dX8_likeFew_42
      · refine z_iload_n X (q := 2) dX8_likeFew_10 rfl rfl ?_
        refine z_aload_n X (q := 0) dX8_likeFew_11 rfl rfl ?_
        refine z_getr X hK (N := 46) (ci := 8) (k := 8) rfl (by decide) inlX8 (by decide) hf_X8_23 rfl spM_X8 rfl dX8_likeFew_12 (fun o2 _ => ?_)
        refine z_iload_n X (q := 3) dX8_likeFew_15 rfl rfl ?_
        refine z_iald X hK dX8_likeFew_16 (fun o3 j4 _ _ => ?_)
        refine z_iload_n X (q := 1) dX8_likeFew_17 rfl rfl ?_
        refine z_iand X dX8_likeFew_18 ?_
        refine z_callS X hK (As := [vI ((st.2.1 o3 j4) &&& y1)]) (kX8_bitsOf l Z  b x _ _) hk_X8_63 ⟨rfl, rfl⟩ hd_X8_bitsOf.2 ⟨Nat.le_of_ble_eq_true rfl, Nat.le_of_ble_eq_true rfl⟩ ⟨Nat.le_of_ble_eq_true rfl, Nat.le_of_ble_eq_true rfl⟩ rfl rfl (Nat.le_of_ble_eq_true rfl) dX8_likeFew_19 (fun q5 => ?_)
        refine z_iconst X (v := (2 : Int32)) dX8_likeFew_22 (by decide) ?_
        refine z_icmp_ge X (tgt := 30) dX8_likeFew_23 (by decide) (fun _ => ?_) (fun _ => ?_)
        · refine z_iconst X (v := (0 : Int32)) dX8_likeFew_30 (by decide) ?_
          exact z_sub [0, 1, 3] (J31 _ _ _ _ _) rfl
        · refine z_iconst X (v := (1 : Int32)) dX8_likeFew_26 (by decide) ?_
          refine z_goto X (tgt := 31) dX8_likeFew_27 (by decide) ?_
          exact z_sub [0, 1, 3] (J31 _ _ _ _ _) rfl
  rw [fX8_likeFew]
  refine z_iconst X (v := (0 : Int32)) dX8_likeFew_0 (by decide) ?_
  refine z_istore_n X dX8_likeFew_1 rfl (Nat.le_of_ble_eq_true rfl) rfl ?_
  refine z_iconst X (v := (0 : Int32)) dX8_likeFew_2 (by decide) ?_
  refine z_istore_n X dX8_likeFew_3 rfl (Nat.le_of_ble_eq_true rfl) rfl ?_
  exact z_sub [2, 3, 1, 0] (J4 _ _ _ _ _) rfl
