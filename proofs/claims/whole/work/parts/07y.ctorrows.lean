/-! constructors: new objects and arrays, final fields, their calls -/
def znew (st : zS) : zS := (st.1 + 1, (fun o j => if o = st.1 then 0 else st.2.1 o j), (fun o => if o = st.1 then 0 else st.2.2.1 o), (fun o j => if o = st.1 then none else st.2.2.2 o j))
def zdv : Nat → Value
  | 0 => .int 0
  | 1 => .long 0
  | _ => .null
theorem zdv_eq (b : Nat) (st : zS) (k j : Nat) : zV b (znew st) k st.1 j = zdv (zg k j) := by
  unfold zV znew zdv
  split <;> simp_all [zrv, va_rf]
theorem znew_E {Z : zZ} {sp : Nat → Nat × Nat} {b : Nat} {st : zS} {o : Nat} (h : o < st.1) : zE Z sp b (znew st) o = zE Z sp b st o := by
  unfold zE znew zV
  simp [Nat.ne_of_lt h]
theorem znew_W {Z : zZ} {sp : Nat → Nat × Nat} {b : Nat} {st : zS} : zW Z sp b (znew st) = zW Z sp b st ++ [(b + st.1, zE Z sp b (znew st) st.1)] := by
  show (List.range (st.1 + 1)).map _ = (List.range st.1).map _ ++ _
  rw [List.range_succ, List.map_append]
  congr 1
  apply List.map_congr_left
  intro o ho
  rw [znew_E (List.mem_range.mp ho)]
theorem zI_new {Z : zZ} {sp : Nat → Nat × Nat} {b : Nat} {st : zS} {H H1 : Heap} (hI : zI Z sp b (some 0) (fun q => b ≤ q) st H) (z1 : H1.size = H.size + 1) (o1 : ∀ q, q < H.size → H1[q]? = H[q]?) (hat : va_at Z.1 vwCl (H.size, zE Z sp b (znew st) st.1) H1) : zI Z sp b (some 0) (fun q => b ≤ q) (znew st) H1 := by
  have hz : H.size = b + st.1 + 0 := hI.1
  have hz2 : H.size = b + st.1 := hz
  refine ⟨?_, fun o _ => Nat.le_add_right _ _, ?_⟩
  · show H1.size = b + (st.1 + 1) + 0
    omega
  · rw [znew_W]
    refine (hI.2.2.kept (fun k q hq => o1 q.1 ((hI.2.2 k q hq).lt))).app (fun k q hq => ?_)
    have hk : k < 1 := (List.getElem?_eq_some_iff.mp hq).1
    rw [show k = 0 by omega] at hq
    cases hq
    rw [← hz2]
    exact hat
theorem zS_new {b : Nat} {s : State} {H H1 : Heap} {locs : List Loc} (h : va_S (fun q => b ≤ q) s.heap H locs) (z1 : H1.size = H.size + 1) (o1 : ∀ q, q < H.size → H1[q]? = H[q]?) : va_S (fun q => b ≤ q) s.heap H1 locs := ⟨Nat.le_trans h.1 (by omega), fun x h1 h2 => (o1 x (Nat.lt_of_lt_of_le h1 h.1)).trans (h.2.1 x h1 h2), h.2.2⟩
def zAOs : List String := ["WellGivesOther$Asker", "WellGivesOther$Sheet", "WellGivesOther$Text"]
def zPcN (args : List Value) (Z : zZ) (sp : Nat → Nat × Nat) (b : Nat) (st : zS) : Array Value → State → Prop := va_Pc args (fun U => zI Z sp b (some 0) (fun q => b ≤ q) st U.heap ∧ va_K Z.1 vwCl (zT Z.2.1) U ∧ zB Z.2.2 b U ∧ ∀ C ∈ zAOs, va_AO C U)
def zN (l : Launch) (Z : zZ) (sp : Nat → Nat × Nat) (b : Nat) (y : MethodName) (cw : Cond) (rm : Room) (mc ms : Nat) (args : List zv) (st : zS) (co : Option (Unit × zS)) : Prop :=
  ∀ res, co = some res → Met l y (cw :: wsL_law) rm (zPcN (zm b args) Z sp b st) (zQ rV Z sp b (some 0) (fun q => b ≤ q) res) mc ms (fun q => b ≤ q)
section ZNEW
variable {p : Program} {l : Launch} {e : Env} {R : Room} {s : State} {m : MethodId} {args : Array Value} {below : List Frame} {meth : Method} {c : Code} {Q : State → Prop} {Z : zZ} {sp : Nat → Nat × Nat} {b : Nat} {nL cells slots : Nat} {σ : Type} {res : σ} {co co1 co2 : Option σ} {pc : Nat} {lv lv' : List (Nat × zv)} {stk : List zv} {st : zS} {cc : ByteArray} {own : String}
theorem z_new (X : CallFix p m c cc nL s args wsL_law own)(hK : zK Z b (fun q => b ≤ q) s) {C : String} {T : u_T} {N ci index : Nat} {f : zS → Option σ} (hcl : vwCl[ci]? = some (C, T, N)) (hci : ci < 9) (hin : ∀ w ∈ u_ws C T N, w ∈ wsL_law) (ty : Nat → FieldType) (hty : ∀ k, k < N → parseFieldDescriptor (T k).2.2.1 = some (ty k)) (hdv : ∀ j, j < N → defaultValue (ty j) = zdv (zg ci j)) (hlk : ∀ w ∈ ([.classLink own index C, .instantiable C N, .initialized C] : List Cond), w ∈ wsL_law) (hcells : cells + 1 ≤ R.cells) (hslots : slots + N ≤ R.slots) (hdg : decode cc pc = .ok (.new index, 3)) (kk : ∀ st1, zs p l e R s m args below meth c Q Z sp b (some 0) (fun q => b ≤ q) nL (cells + 1) (slots + N) res (f st1) (pc + 3) lv (vP (some st.1) :: stk) st1) : zs p l e R s m args below meth c Q Z sp b (some 0) (fun q => b ≤ q) nL (cells) (slots) res (if sp st.1 = (ci, N) then zlet (znew st) f else none) (pc) lv (stk) st :=
  by
  refine z_ite (fun hsp => ?_) (fun _ => z_none)
  intro hc H locs ls hI hS hl
  have hKn := hK.1.1 ci _ hcl
  have hz2 : H.size = b + st.1 := hI.1
  refine W.newcK X.1 X.2.1 X.2.2.2.1 (X.2.2.2.2 _ (hlk _ (by simp))) (X.2.2.2.2 _ (hlk _ (by simp))) (X.2.2.2.2 _ (hlk _ (by simp))) rfl hdg hcells hslots hKn.2.1 rfl fun H1 kC hkC e1 z1 o1 => ?_
  have h2 := kk (znew st) hc H1 locs ls (zI_new hI z1 o1 (by
    rw [zE_obj (by rw [hsp]) hci, hsp]
    exact ⟨_, hcl, (u_born ty X.2.2.2.2 hin hKn hkC e1 hty).to (fun j hj => by
      rw [hdv j hj]
      unfold vp_V
      rw [List.getD_eq_getElem?_getD, z_vf hj, zdv_eq]
      rfl)⟩)) (zS_new hS z1 o1) hl
  have e2 : zm b (vP (some st.1) :: stk) = .ref H.size :: zm b stk := by rw [hz2]; rfl
  rw [e2] at h2
  exact h2
theorem z_newi (X : CallFix p m c cc nL s args wsL_law own)(hK : zK Z b (fun q => b ≤ q) s) {N : Nat} {n : Int32} {f : zS → Option σ} (hlk : Cond.arrayClass .int ∈ wsL_law) (hn : ¬ n < 0) (hN : n.toNatClampNeg = N) (hbytes : N * componentBytes .int ≤ 536870912) (hcells : cells + 1 ≤ R.cells) (hslots : slots + N ≤ R.slots) (hdg : decode cc pc = .ok (.newarray .int, 2)) (kk : ∀ st1, zs p l e R s m args below meth c Q Z sp b (some 0) (fun q => b ≤ q) nL (cells + 1) (slots + N) res (f st1) (pc + 2) lv (vP (some st.1) :: stk) st1) : zs p l e R s m args below meth c Q Z sp b (some 0) (fun q => b ≤ q) nL (cells) (slots) res (if sp st.1 = (9, N) then zlet (znew st) f else none) (pc) lv (vI n :: stk) st :=
  by
  refine z_ite (fun hsp => ?_) (fun _ => z_none)
  intro hc H locs ls hI hS hl
  have hz2 : H.size = b + st.1 := hI.1
  refine va_newaK (atype := .int) X.1 X.2.1 (X.2.2.2.2 _ hlk) rfl hdg rfl hn hN hbytes hcells hslots rfl fun H1 cA e1 z1 o1 hAr hNm => ?_
  have hcA : cA = Z.2.1 0 := Option.some.inj (hNm.symm.trans (hK.1.2 0 _ rfl).2)
  have h2 := kk (znew st) hc H1 locs ls (zI_new hI z1 o1 (by
    rw [zE_arr (by rw [hsp]) (by omega), hsp]
    show H1[H.size]? = some (vp_cell _ _)
    rw [e1, vp_cell_i, hcA]
    unfold znew
    simp
    rfl)) (zS_new hS z1 o1) hl
  have e2 : zm b (vP (some st.1) :: stk) = .ref H.size :: zm b stk := by rw [hz2]; rfl
  rw [e2] at h2
  exact h2
theorem z_newz (X : CallFix p m c cc nL s args wsL_law own)(hK : zK Z b (fun q => b ≤ q) s) {N : Nat} {n : Int32} {f : zS → Option σ} (hlk : Cond.arrayClass .boolean ∈ wsL_law) (hn : ¬ n < 0) (hN : n.toNatClampNeg = N) (hbytes : N * componentBytes .boolean ≤ 536870912) (hcells : cells + 1 ≤ R.cells) (hslots : slots + N ≤ R.slots) (hdg : decode cc pc = .ok (.newarray .boolean, 2)) (kk : ∀ st1, zs p l e R s m args below meth c Q Z sp b (some 0) (fun q => b ≤ q) nL (cells + 1) (slots + N) res (f st1) (pc + 2) lv (vP (some st.1) :: stk) st1) : zs p l e R s m args below meth c Q Z sp b (some 0) (fun q => b ≤ q) nL (cells) (slots) res (if sp st.1 = (10, N) then zlet (znew st) f else none) (pc) lv (vI n :: stk) st :=
  by
  refine z_ite (fun hsp => ?_) (fun _ => z_none)
  intro hc H locs ls hI hS hl
  have hz2 : H.size = b + st.1 := hI.1
  refine va_newaK (atype := .boolean) X.1 X.2.1 (X.2.2.2.2 _ hlk) rfl hdg rfl hn hN hbytes hcells hslots rfl fun H1 cA e1 z1 o1 hAr hNm => ?_
  have hcA : cA = Z.2.1 1 := Option.some.inj (hNm.symm.trans (hK.1.2 1 _ rfl).2)
  have h2 := kk (znew st) hc H1 locs ls (zI_new hI z1 o1 (by
    rw [zE_arr (by rw [hsp]) (by omega), hsp]
    show H1[H.size]? = some (vp_cell _ _)
    rw [e1, vp_cell_i, hcA]
    unfold znew
    simp
    rfl)) (zS_new hS z1 o1) hl
  have e2 : zm b (vP (some st.1) :: stk) = .ref H.size :: zm b stk := by rw [hz2]; rfl
  rw [e2] at h2
  exact h2
theorem z_newq11 (X : CallFix p m c cc nL s args wsL_law own)(hK : zK Z b (fun q => b ≤ q) s) (hAO : ∀ C ∈ zAOs, va_AO C s) {N index : Nat} {n : Int32} {f : zS → Option σ} (hlk : Cond.classLink own index RX0 ∈ wsL_law) (hn : ¬ n < 0) (hN : n.toNatClampNeg = N) (hbytes : N * 4 ≤ 536870912) (hcells : cells + 1 ≤ R.cells) (hslots : slots + N ≤ R.slots) (hdg : decode cc pc = .ok (.anewarray index, 3)) (kk : ∀ st1, zs p l e R s m args below meth c Q Z sp b (some 0) (fun q => b ≤ q) nL (cells + 1) (slots + N) res (f st1) (pc + 3) lv (vP (some st.1) :: stk) st1) : zs p l e R s m args below meth c Q Z sp b (some 0) (fun q => b ≤ q) nL (cells) (slots) res (if sp st.1 = (11, N) then zlet (znew st) f else none) (pc) lv (vI n :: stk) st :=
  by
  refine z_ite (fun hsp => ?_) (fun _ => z_none)
  intro hc H locs ls hI hS hl
  have hz2 : H.size = b + st.1 := hI.1
  subst hN
  refine W.anew X.1 X.2.1 X.2.2.2.1 (X.2.2.2.2 _ hlk) (va_AO.use (hAO RX0 (by decide +kernel))) rfl hdg rfl hn hbytes hcells hslots fun cA kA comp f1 f2 f3 f4 => ?_
  generalize hH1 : H.push ({ cls := cA, slots := Array.replicate n.toNatClampNeg .null, vm := .none } : Cell) = H1
  have z1 : H1.size = H.size + 1 := by rw [← hH1, Array.size_push]
  have e1 : H1[H.size]? = some (arrV cA n.toNatClampNeg (fun _ => .null)) := by rw [← hH1, Array.getElem?_push_size, ← arrV_new]
  have o1 : ∀ q : Nat, q < H.size → H1[q]? = H[q]? := fun q hq => by rw [← hH1, Array.getElem?_push, if_neg (Nat.ne_of_lt hq)]
  obtain ⟨kA', comp', g1, g2, g3, g4⟩ := (hK.1.2 2 _ rfl).2
  have hcA : cA = Z.2.1 2 := Option.some.inj (f1.symm.trans g4)
  have h2 := kk (znew st) hc H1 locs ls (zI_new hI z1 o1 (by
    rw [zE_ref (by rw [hsp]) (by omega), hsp]
    show H1[H.size]? = some (vp_cell _ _)
    rw [e1, vp_cell_q, hcA]
    unfold znew
    simp
    rfl)) (zS_new hS z1 o1) hl
  have e2 : zm b (vP (some st.1) :: stk) = .ref H.size :: zm b stk := by rw [hz2]; rfl
  rw [e2] at h2
  exact h2
theorem z_newq12 (X : CallFix p m c cc nL s args wsL_law own)(hK : zK Z b (fun q => b ≤ q) s) (hAO : ∀ C ∈ zAOs, va_AO C s) {N index : Nat} {n : Int32} {f : zS → Option σ} (hlk : Cond.classLink own index RX3 ∈ wsL_law) (hn : ¬ n < 0) (hN : n.toNatClampNeg = N) (hbytes : N * 4 ≤ 536870912) (hcells : cells + 1 ≤ R.cells) (hslots : slots + N ≤ R.slots) (hdg : decode cc pc = .ok (.anewarray index, 3)) (kk : ∀ st1, zs p l e R s m args below meth c Q Z sp b (some 0) (fun q => b ≤ q) nL (cells + 1) (slots + N) res (f st1) (pc + 3) lv (vP (some st.1) :: stk) st1) : zs p l e R s m args below meth c Q Z sp b (some 0) (fun q => b ≤ q) nL (cells) (slots) res (if sp st.1 = (12, N) then zlet (znew st) f else none) (pc) lv (vI n :: stk) st :=
  by
  refine z_ite (fun hsp => ?_) (fun _ => z_none)
  intro hc H locs ls hI hS hl
  have hz2 : H.size = b + st.1 := hI.1
  subst hN
  refine W.anew X.1 X.2.1 X.2.2.2.1 (X.2.2.2.2 _ hlk) (va_AO.use (hAO RX3 (by decide +kernel))) rfl hdg rfl hn hbytes hcells hslots fun cA kA comp f1 f2 f3 f4 => ?_
  generalize hH1 : H.push ({ cls := cA, slots := Array.replicate n.toNatClampNeg .null, vm := .none } : Cell) = H1
  have z1 : H1.size = H.size + 1 := by rw [← hH1, Array.size_push]
  have e1 : H1[H.size]? = some (arrV cA n.toNatClampNeg (fun _ => .null)) := by rw [← hH1, Array.getElem?_push_size, ← arrV_new]
  have o1 : ∀ q : Nat, q < H.size → H1[q]? = H[q]? := fun q hq => by rw [← hH1, Array.getElem?_push, if_neg (Nat.ne_of_lt hq)]
  obtain ⟨kA', comp', g1, g2, g3, g4⟩ := (hK.1.2 3 _ rfl).2
  have hcA : cA = Z.2.1 3 := Option.some.inj (f1.symm.trans g4)
  have h2 := kk (znew st) hc H1 locs ls (zI_new hI z1 o1 (by
    rw [zE_ref (by rw [hsp]) (by omega), hsp]
    show H1[H.size]? = some (vp_cell _ _)
    rw [e1, vp_cell_q, hcA]
    unfold znew
    simp
    rfl)) (zS_new hS z1 o1) hl
  have e2 : zm b (vP (some st.1) :: stk) = .ref H.size :: zm b stk := by rw [hz2]; rfl
  rw [e2] at h2
  exact h2
theorem z_newq13 (X : CallFix p m c cc nL s args wsL_law own)(hK : zK Z b (fun q => b ≤ q) s) (hAO : ∀ C ∈ zAOs, va_AO C s) {N index : Nat} {n : Int32} {f : zS → Option σ} (hlk : Cond.classLink own index RX4 ∈ wsL_law) (hn : ¬ n < 0) (hN : n.toNatClampNeg = N) (hbytes : N * 4 ≤ 536870912) (hcells : cells + 1 ≤ R.cells) (hslots : slots + N ≤ R.slots) (hdg : decode cc pc = .ok (.anewarray index, 3)) (kk : ∀ st1, zs p l e R s m args below meth c Q Z sp b (some 0) (fun q => b ≤ q) nL (cells + 1) (slots + N) res (f st1) (pc + 3) lv (vP (some st.1) :: stk) st1) : zs p l e R s m args below meth c Q Z sp b (some 0) (fun q => b ≤ q) nL (cells) (slots) res (if sp st.1 = (13, N) then zlet (znew st) f else none) (pc) lv (vI n :: stk) st :=
  by
  refine z_ite (fun hsp => ?_) (fun _ => z_none)
  intro hc H locs ls hI hS hl
  have hz2 : H.size = b + st.1 := hI.1
  subst hN
  refine W.anew X.1 X.2.1 X.2.2.2.1 (X.2.2.2.2 _ hlk) (va_AO.use (hAO RX4 (by decide +kernel))) rfl hdg rfl hn hbytes hcells hslots fun cA kA comp f1 f2 f3 f4 => ?_
  generalize hH1 : H.push ({ cls := cA, slots := Array.replicate n.toNatClampNeg .null, vm := .none } : Cell) = H1
  have z1 : H1.size = H.size + 1 := by rw [← hH1, Array.size_push]
  have e1 : H1[H.size]? = some (arrV cA n.toNatClampNeg (fun _ => .null)) := by rw [← hH1, Array.getElem?_push_size, ← arrV_new]
  have o1 : ∀ q : Nat, q < H.size → H1[q]? = H[q]? := fun q hq => by rw [← hH1, Array.getElem?_push, if_neg (Nat.ne_of_lt hq)]
  obtain ⟨kA', comp', g1, g2, g3, g4⟩ := (hK.1.2 4 _ rfl).2
  have hcA : cA = Z.2.1 4 := Option.some.inj (f1.symm.trans g4)
  have h2 := kk (znew st) hc H1 locs ls (zI_new hI z1 o1 (by
    rw [zE_ref (by rw [hsp]) (by omega), hsp]
    show H1[H.size]? = some (vp_cell _ _)
    rw [e1, vp_cell_q, hcA]
    unfold znew
    simp
    rfl)) (zS_new hS z1 o1) hl
  have e2 : zm b (vP (some st.1) :: stk) = .ref H.size :: zm b stk := by rw [hz2]; rfl
  rw [e2] at h2
  exact h2
theorem z_putF0 (X : CallFix p m c cc nL s args wsL_law own)(hK : zK Z b (fun q => b ≤ q) s) (hinit : meth.name = "<init>") {C ref : String} {T : u_T} {N ci k index : Nat} (hcl : vwCl[ci]? = some (C, T, N)) (hci : ci < 9) (hin : ∀ w ∈ u_ws C T N, w ∈ wsL_law) (ty0 : Nat → FieldType) (hty : ∀ k, k < N → parseFieldDescriptor (T k).2.2.1 = some (ty0 k)) (hnm : ∀ a, a < N → ∀ b, b < N → a ≠ b → (T a).2.1 ≠ (T b).2.1) (hk : k < N) (hlink : Cond.fieldLink own index ref (T k).2.1 (T k).2.2.1 ∈ wsL_law) (href : (T k).1 = ref) (hdecl : (T k).1 = own) (hfin : (T k).2.2.2 = true) (hsp : ∀ o, (sp o).1 = ci → (sp o).2 = N) {ty : FieldType} (hd : parseFieldDescriptor (T k).2.2.1 = some ty)
    {o : Nat} {v : zv} {st' : zS} (ho : o < st.1) (hs : (sp o).1 = ci) (hn : narrow ty (zval b v) = zval b v) (hfit : fits ty (zval b v) = true) (hst : st'.1 = st.1) (hE : ∀ o', o' ≠ o → zE Z sp b st' o' = zE Z sp b st o') (hv : zV b st' ci o k = zval b v) (hv2 : ∀ j, j ≠ k → zV b st' ci o j = zV b st ci o j) (hdg : decode cc pc = .ok (.putfield index, 3)) (kk : zs p l e R s m args below meth c Q Z sp b (some 0) (fun q => b ≤ q) nL (cells) (slots) res co (pc + 3) lv (stk) st') : zs p l e R s m args below meth c Q Z sp b (some 0) (fun q => b ≤ q) nL (cells) (slots) res co (pc) lv (v :: vP (some o) :: stk) st := by
  intro hc H locs ls hI hS hl
  have he := zW_at (Z := Z) (sp := sp) (b := b) ho
  rw [zE_obj hs hci, hsp o hs] at he
  have hap := va_apart (own := own) X.2.2.2.2 hin ty0 hty hnm hK.1 hcl
  obtain ⟨r, h1, cell, q1, q2, q3, q4⟩ := hI.2.2 o _ he
  have hr : r = (C, T, N) := Option.some.inj (h1.symm.trans hcl)
  subst hr
  obtain ⟨hSl, hfc, kC, hkC, hkind⟩ := hK.1.1 ci _ hcl
  obtain ⟨cf, kf, fi, f, hi, hsl⟩ := hSl k hk
  have hlay := X.2.2.2.2 _ (hin _ (u_in_lay hk))
  unfold u_lay at hlay
  rw [if_pos hfin] at hlay
  have hstt := (u_facts hfc hkC (u_lays X.2.2.2.2 hin hk) hi).1
  have hcf : m.cls = cf := by
    obtain ⟨_, _, c', _, _, _, -, -, hf', -, -, -, hown2, -⟩ := Cond.laysFinal_spec hlay
    have e1 : c' = cf := by have := hi.symm.trans hf'; simp at this; exact this.1.symm
    rw [hdecl] at hown2
    rw [← e1]; exact Option.some.inj (X.2.2.2.1.symm.trans hown2)
  have h6 := u_fits hfc hkC hkind (Or.inr hlay) hi hd hn hfit
  subst href
  refine W.putFinK X.1 X.2.1 X.2.2.2.1 (X.2.2.2.2 _ hlink) hi hstt hcf hinit (by rw [q2]; exact h6) q1 q3 (by rw [hsl]; exact k2_hasslot (q4 k hk)) rfl rfl hdg fun H' e1 e2 e3 => ?_
  rw [hsl] at e1 ⊢
  refine kk hc H' _ ls (zI_put hI ho hst hE e2 ?_ e3) (hS.put e2 e3 (hI.2.1 o ho)) hl
  rw [zE_obj hs hci, hsp o hs]
  refine ⟨_, hcl, t_OB.to (V := updV (vp_V ((List.range N).map (fun j => zV b st ci o j))) k (zval b v)) ⟨_, e1, q2, q3, t_set q4 hap hk _⟩ (fun j hj => ?_)⟩
  rw [vp_updV_set (by simpa using hk)]
  congr 1
  rw [← hv]
  exact zset_ext N k _ _ (fun _ => trivial) hv2
theorem z_putFr (X : CallFix p m c cc nL s args wsL_law own)(hK : zK Z b (fun q => b ≤ q) s) (hinit : meth.name = "<init>") {C ref : String} {T : u_T} {N ci k index : Nat} (hcl : vwCl[ci]? = some (C, T, N)) (hci : ci < 9) (hin : ∀ w ∈ u_ws C T N, w ∈ wsL_law) (ty0 : Nat → FieldType) (hty : ∀ k, k < N → parseFieldDescriptor (T k).2.2.1 = some (ty0 k)) (hnm : ∀ a, a < N → ∀ b, b < N → a ≠ b → (T a).2.1 ≠ (T b).2.1) (hk : k < N) (hlink : Cond.fieldLink own index ref (T k).2.1 (T k).2.2.1 ∈ wsL_law) (href : (T k).1 = ref) (hdecl : (T k).1 = own) (hfin : (T k).2.2.2 = true) (hsp : ∀ o, (sp o).1 = ci → (sp o).2 = N) (hg : zg ci k = 2) {ty : FieldType} (hd : parseFieldDescriptor (T k).2.2.1 = some ty) (hty2 : ∀ r : Option Nat, narrow ty (va_rf r) = va_rf r ∧ fits ty (va_rf r) = true) {v : Option Nat} {f : Nat → zS → Option σ} {r : Option Nat} (hdg : decode cc pc = .ok (.putfield index, 3)) (kk : ∀ o st1, r = some o → zs p l e R s m args below meth c Q Z sp b (some 0) (fun q => b ≤ q) nL (cells) (slots) res (f o st1) (pc + 3) lv (stk) st1) : zs p l e R s m args below meth c Q Z sp b (some 0) (fun q => b ≤ q) nL (cells) (slots) res ((zok sp st r ci).bind fun o => zlet (zpr st o k v) (f o)) (pc) lv (vP v :: vP r :: stk) st :=
  by
  cases hr : zok sp st r ci with
  | none => exact z_none
  | some o =>
    obtain ⟨rfl, ho, hs⟩ := zok_spec hr
    exact z_putF0 (co := f o (zpr st o k v)) (st' := zpr st o k v) X hK hinit hcl hci hin ty0 hty hnm hk hlink href hdecl hfin hsp hd ho hs (hty2 _).1 (hty2 _).2 rfl zpr_E (by unfold zV; rw [hg]; simp [zpr, zval]) (fun j hj => by unfold zV; simp [zpr, hj]) hdg (kk o _ rfl)
theorem z_aast11 (X : CallFix p m c cc nL s args wsL_law own)(hK : zK Z b (fun q => b ≤ q) s) {r v : Option Nat} {i : Int32} {f : Nat → Nat → Nat → zS → Option σ} (hdg : decode cc pc = .ok (.aastore, 1)) (kk : ∀ o j a st1, zs p l e R s m args below meth c Q Z sp b (some 0) (fun q => b ≤ q) nL (cells) (slots) res (f o j a st1) (pc + 1) lv (stk) st1) : zs p l e R s m args below meth c Q Z sp b (some 0) (fun q => b ≤ q) nL (cells) (slots) res ((zok sp st r 11).bind fun o => (zix sp o i).bind fun j => (zok sp st v 0).bind fun a => zlet (zpr st o j (some a)) (f o j a)) (pc) lv (vP v :: vI i :: vP r :: stk) st :=
  by
  cases hr : zok sp st r 11 with
  | none => exact z_none
  | some o =>
    obtain ⟨rfl, ho, hs⟩ := zok_spec hr
    show zs p l e R s m args below meth c Q Z sp b (some 0) (fun q => b ≤ q) nL cells slots res ((zix sp o i).bind fun j => (zok sp st v 0).bind fun a => zlet (zpr st o j (some a)) (f o j a)) _ _ _ _
    cases hi : zix sp o i with
    | none => exact z_none
    | some j =>
      obtain ⟨hvi, rfl⟩ := zix_spec hi
      show zs p l e R s m args below meth c Q Z sp b (some 0) (fun q => b ≤ q) nL cells slots res ((zok sp st v 0).bind fun a => zlet (zpr st o i.toNatClampNeg (some a)) (f o i.toNatClampNeg a)) _ _ _ _
      cases hv : zok sp st v 0 with
      | none => exact z_none
      | some a =>
        obtain ⟨rfl, ha, hsa⟩ := zok_spec hv
        intro hc H locs ls hI hS hl
        have he := zW_at (Z := Z) (sp := sp) (b := b) ho
        rw [zE_ref hs (by omega)] at he
        have hea := zW_at (Z := Z) (sp := sp) (b := b) ha
        rw [zE_obj hsa (by omega)] at hea
        obtain ⟨r', hr', cellV, g1, g2, g3, -⟩ := hI.2.2 a _ hea
        have hcls := (hK.1.1 0 (RX0, TX0, 5) rfl).2
        obtain ⟨kA, comp, k1, k2, k3, -⟩ := (hK.1.2 2 _ rfl).2
        have hcomp : comp = Z.1.1 0 := Option.some.inj (k3.symm.trans hcls.1)
        subst hcomp
        obtain ⟨kC, hkC, -⟩ := hcls.2
        have hlt : i.toNatClampNeg < (sp o).2 := Nat.not_le.mp fun q => hvi (Or.inr q)
        refine W.aast X.1 X.2.1 (hI.2.2 o _ he) (fun q h => by cases h) (fun h => by cases h) k1 k2 rfl hkC ⟨fun q => hvi (Or.inl q), by show _ < (arrV _ _ _).slots.size; rw [arrV_size]; exact hlt⟩ g1 (fun q h => by rw [g3] at h; cases h) (by rw [g2]; exact hkC) (by rw [g2]; exact va_assign hcls) rfl rfl hdg fun H1 e z oq => ?_
        refine kk o _ a _ hc H1 _ ls (zI_put hI ho (st' := zpr st o i.toNatClampNeg (some a)) rfl zpr_E z ?_ oq) (hS.put z oq (hI.2.1 o ho)) hl
        rw [zE_ref hs (by omega)]
        show H1[b + o]? = some (vp_cell _ _)
        rw [e]
        rw [vp_cell_q, vp_cell_q, arrV_store]
        congr 2
        funext q
        by_cases hq : q = i.toNatClampNeg
        · subst hq
          simp [updV, zpr, va_rf]
        · simp [updV, zpr, hq]
theorem z_aast12 (X : CallFix p m c cc nL s args wsL_law own)(hK : zK Z b (fun q => b ≤ q) s) {r v : Option Nat} {i : Int32} {f : Nat → Nat → Nat → zS → Option σ} (hdg : decode cc pc = .ok (.aastore, 1)) (kk : ∀ o j a st1, zs p l e R s m args below meth c Q Z sp b (some 0) (fun q => b ≤ q) nL (cells) (slots) res (f o j a st1) (pc + 1) lv (stk) st1) : zs p l e R s m args below meth c Q Z sp b (some 0) (fun q => b ≤ q) nL (cells) (slots) res ((zok sp st r 12).bind fun o => (zix sp o i).bind fun j => (zok sp st v 3).bind fun a => zlet (zpr st o j (some a)) (f o j a)) (pc) lv (vP v :: vI i :: vP r :: stk) st :=
  by
  cases hr : zok sp st r 12 with
  | none => exact z_none
  | some o =>
    obtain ⟨rfl, ho, hs⟩ := zok_spec hr
    show zs p l e R s m args below meth c Q Z sp b (some 0) (fun q => b ≤ q) nL cells slots res ((zix sp o i).bind fun j => (zok sp st v 3).bind fun a => zlet (zpr st o j (some a)) (f o j a)) _ _ _ _
    cases hi : zix sp o i with
    | none => exact z_none
    | some j =>
      obtain ⟨hvi, rfl⟩ := zix_spec hi
      show zs p l e R s m args below meth c Q Z sp b (some 0) (fun q => b ≤ q) nL cells slots res ((zok sp st v 3).bind fun a => zlet (zpr st o i.toNatClampNeg (some a)) (f o i.toNatClampNeg a)) _ _ _ _
      cases hv : zok sp st v 3 with
      | none => exact z_none
      | some a =>
        obtain ⟨rfl, ha, hsa⟩ := zok_spec hv
        intro hc H locs ls hI hS hl
        have he := zW_at (Z := Z) (sp := sp) (b := b) ho
        rw [zE_ref hs (by omega)] at he
        have hea := zW_at (Z := Z) (sp := sp) (b := b) ha
        rw [zE_obj hsa (by omega)] at hea
        obtain ⟨r', hr', cellV, g1, g2, g3, -⟩ := hI.2.2 a _ hea
        have hcls := (hK.1.1 3 (RX3, TX3, 3) rfl).2
        obtain ⟨kA, comp, k1, k2, k3, -⟩ := (hK.1.2 3 _ rfl).2
        have hcomp : comp = Z.1.1 3 := Option.some.inj (k3.symm.trans hcls.1)
        subst hcomp
        obtain ⟨kC, hkC, -⟩ := hcls.2
        have hlt : i.toNatClampNeg < (sp o).2 := Nat.not_le.mp fun q => hvi (Or.inr q)
        refine W.aast X.1 X.2.1 (hI.2.2 o _ he) (fun q h => by cases h) (fun h => by cases h) k1 k2 rfl hkC ⟨fun q => hvi (Or.inl q), by show _ < (arrV _ _ _).slots.size; rw [arrV_size]; exact hlt⟩ g1 (fun q h => by rw [g3] at h; cases h) (by rw [g2]; exact hkC) (by rw [g2]; exact va_assign hcls) rfl rfl hdg fun H1 e z oq => ?_
        refine kk o _ a _ hc H1 _ ls (zI_put hI ho (st' := zpr st o i.toNatClampNeg (some a)) rfl zpr_E z ?_ oq) (hS.put z oq (hI.2.1 o ho)) hl
        rw [zE_ref hs (by omega)]
        show H1[b + o]? = some (vp_cell _ _)
        rw [e]
        rw [vp_cell_q, vp_cell_q, arrV_store]
        congr 2
        funext q
        by_cases hq : q = i.toNatClampNeg
        · subst hq
          simp [updV, zpr, va_rf]
        · simp [updV, zpr, hq]
theorem z_aast13 (X : CallFix p m c cc nL s args wsL_law own)(hK : zK Z b (fun q => b ≤ q) s) {r v : Option Nat} {i : Int32} {f : Nat → Nat → Nat → zS → Option σ} (hdg : decode cc pc = .ok (.aastore, 1)) (kk : ∀ o j a st1, zs p l e R s m args below meth c Q Z sp b (some 0) (fun q => b ≤ q) nL (cells) (slots) res (f o j a st1) (pc + 1) lv (stk) st1) : zs p l e R s m args below meth c Q Z sp b (some 0) (fun q => b ≤ q) nL (cells) (slots) res ((zok sp st r 13).bind fun o => (zix sp o i).bind fun j => (zok sp st v 4).bind fun a => zlet (zpr st o j (some a)) (f o j a)) (pc) lv (vP v :: vI i :: vP r :: stk) st :=
  by
  cases hr : zok sp st r 13 with
  | none => exact z_none
  | some o =>
    obtain ⟨rfl, ho, hs⟩ := zok_spec hr
    show zs p l e R s m args below meth c Q Z sp b (some 0) (fun q => b ≤ q) nL cells slots res ((zix sp o i).bind fun j => (zok sp st v 4).bind fun a => zlet (zpr st o j (some a)) (f o j a)) _ _ _ _
    cases hi : zix sp o i with
    | none => exact z_none
    | some j =>
      obtain ⟨hvi, rfl⟩ := zix_spec hi
      show zs p l e R s m args below meth c Q Z sp b (some 0) (fun q => b ≤ q) nL cells slots res ((zok sp st v 4).bind fun a => zlet (zpr st o i.toNatClampNeg (some a)) (f o i.toNatClampNeg a)) _ _ _ _
      cases hv : zok sp st v 4 with
      | none => exact z_none
      | some a =>
        obtain ⟨rfl, ha, hsa⟩ := zok_spec hv
        intro hc H locs ls hI hS hl
        have he := zW_at (Z := Z) (sp := sp) (b := b) ho
        rw [zE_ref hs (by omega)] at he
        have hea := zW_at (Z := Z) (sp := sp) (b := b) ha
        rw [zE_obj hsa (by omega)] at hea
        obtain ⟨r', hr', cellV, g1, g2, g3, -⟩ := hI.2.2 a _ hea
        have hcls := (hK.1.1 4 (RX4, TX4, 6) rfl).2
        obtain ⟨kA, comp, k1, k2, k3, -⟩ := (hK.1.2 4 _ rfl).2
        have hcomp : comp = Z.1.1 4 := Option.some.inj (k3.symm.trans hcls.1)
        subst hcomp
        obtain ⟨kC, hkC, -⟩ := hcls.2
        have hlt : i.toNatClampNeg < (sp o).2 := Nat.not_le.mp fun q => hvi (Or.inr q)
        refine W.aast X.1 X.2.1 (hI.2.2 o _ he) (fun q h => by cases h) (fun h => by cases h) k1 k2 rfl hkC ⟨fun q => hvi (Or.inl q), by show _ < (arrV _ _ _).slots.size; rw [arrV_size]; exact hlt⟩ g1 (fun q h => by rw [g3] at h; cases h) (by rw [g2]; exact hkC) (by rw [g2]; exact va_assign hcls) rfl rfl hdg fun H1 e z oq => ?_
        refine kk o _ a _ hc H1 _ ls (zI_put hI ho (st' := zpr st o i.toNatClampNeg (some a)) rfl zpr_E z ?_ oq) (hS.put z oq (hI.2.1 o ho)) hl
        rw [zE_ref hs (by omega)]
        show H1[b + o]? = some (vp_cell _ _)
        rw [e]
        rw [vp_cell_q, vp_cell_q, arrV_store]
        congr 2
        funext q
        by_cases hq : q = i.toNatClampNeg
        · subst hq
          simp [updV, zpr, va_rf]
        · simp [updV, zpr, hq]
theorem z_objinit (X : CallFix p m c cc nL s args wsL_law own) {index o : Nat} (hlk : ∀ w ∈ ([.methodLink own index objectInit, .instanceMethod objectInit, .code objectInit ⟨#[0xb1]⟩ 1 none] : List Cond), w ∈ wsL_law) (hR : 1 ≤ R.frames ∧ 20 ≤ R.locals) (hcat : zcats stk ≤ 8) (hdg : decode cc pc = .ok (.invokespecial index, 3)) (k : zs p l e R s m args below meth c Q Z sp b (some 0) (fun q => b ≤ q) nL (cells) (slots) res co (pc + 3) lv (stk) st) : zs p l e R s m args below meth c Q Z sp b (some 0) (fun q => b ≤ q) nL (cells) (slots) res co (pc) lv (vP (some o) :: stk) st :=
  fun hc H locs ls hI hS hl => W.objInit X.1 X.2.1 X.2.2.2.1 (X.2.2.2.2 _ (hlk _ (by simp))) (X.2.2.2.2 _ (hlk _ (by simp))) (X.2.2.2.2 _ (hlk _ (by simp))) rfl (hl.1.trans X.2.2.1.symm) rfl hdg hR.1 (by show 2 * 0 + ((zm b stk).map fun v => v.category).sum + 12 ≤ _; rw [zcats_eq]; omega) (k hc H locs ls hI hS hl)
theorem z_callI (X : CallFix p m c cc nL s args wsL_law own)(hK : zK Z b (fun q => b ≤ q) s) (hAO : ∀ C ∈ zAOs, va_AO C s) {y : MethodName} {bytes : ByteArray} {maxL : Nat} {rm : Room} {index n mc ms ci : Nat} {As : List zv} {body : Unit × zS → Option σ} {stk0 : List zv} {f : Nat → Option (Unit × zS)} {r : Option Nat} (hM : ∀ o, zN l Z sp b y (.code y bytes maxL none) rm mc ms (vP (some o) :: As) st (f o)) 
    (hlk : ∀ w ∈ ([.methodLink own index y, .instanceMethod y, .initialized y.cls, .code y bytes maxL none] : List Cond), w ∈ wsL_law) (hy1 : y.name = "<init>") (hrm : rm.cells = mc ∧ rm.slots = ms) (hd : y.cls ≠ "java/lang/invoke/MethodHandle" ∧ y.cls ≠ "java/lang/invoke/VarHandle" ∧ (parseMethodDescriptor y.desc).map (fun d => d.parameters.length) = some n) (hR : rm.frames + 1 ≤ R.frames ∧ 8 + (maxL + 11) + rm.locals ≤ R.locals) (hcs : cells + mc ≤ R.cells ∧ slots + ms ≤ R.slots)
    (hn : As.length = n) (hst : stk0 = As.reverse ++ vP r :: stk) (hcat : zcats stk ≤ 8) (hdg : decode cc pc = .ok (.invokespecial index, 3))
    (kk : ∀ o q, r = some o → zs p l e R s m args below meth c Q Z sp b (some 0) (fun q => b ≤ q) nL (cells + mc) (slots + ms) res (body q) (pc + 3) lv (stk) q.2) : zs p l e R s m args below meth c Q Z sp b (some 0) (fun q => b ≤ q) nL (cells) (slots) res ((zok sp st r ci).bind fun o => (f o).bind body) (pc) lv (stk0) st := by
  cases hr : zok sp st r ci with
  | none => exact z_none
  | some o =>
  obtain ⟨rfl, ho, hs⟩ := zok_spec hr
  show zs p l e R s m args below meth c Q Z sp b (some 0) (fun q => b ≤ q) nL cells slots res ((f o).bind body) _ _ _ _
  cases hf : f o with
  | none => exact z_none
  | some q =>
  subst hst
  intro hc H locs ls hI hS hl
  have hG : GoodIn wsL_law (.code y bytes maxL none :: wsL_law) := by
    intro w hw
    have hw2 : w ∈ wsL_law := by
      rcases List.mem_cons.mp hw with h | h
      · exact hlk w (by simp [h])
      · exact h
    exact ⟨hw2, zGood w hw2⟩
  have hrun := va_runI (l := l) (e := e) (below := below) (meth := meth) (H := H) (locs := locs) (cells := cells) (slots := slots) (mc := mc) (ms := ms) (As := zm b As) (rest := zm b stk) (b := b + o) (g := F0 m pc ls (zm b (As.reverse ++ vP (some o) :: stk))) X (hM o q hf) (cwI n X.2.2.2.2 hG rfl hrm.1 hrm.2 (X.2.2.2.2 _ (hlk _ (by simp))) (X.2.2.2.2 _ (hlk _ (by simp))) (X.2.2.2.2 _ (hlk _ (by simp))) hy1 hd hR) ⟨fun a U g mk q => ⟨q.1, q.2.1, va_K.moved (u := U) (U := U.calling g mk a) (Vm.Alike.refl U.vm) q.2.2.1, zB_same q.2.2.2.1 rfl rfl, fun C hC => va_AO.moved (u := U) (U := U.calling g mk a) (Vm.Alike.refl U.vm) (q.2.2.2.2 C hC)⟩, fun U hU hW => ⟨rfl, by rw [hU]; exact hI, va_K.moved hW.alike hK.1, zB_warm hK.2.1 hW (fun a h1 h2 => by rw [hU]; exact hS.2.1 a h1 (Nat.not_le.mpr h2)), fun C hC => va_AO.moved hW.alike (hAO C hC)⟩⟩ rfl (by unfold zm; rw [List.length_map]; exact hn) hl.1 (by rw [zm_app]; unfold zm; rw [List.map_reverse]; rfl) (by rw [zcats_eq]; show 2 * 0 + _ ≤ 8; omega) hdg hcs
  intro T hT X'
  obtain ⟨v, st₀, t, T', L, h0, X', hL, e1, e2, ⟨⟨⟨v', hv, hv2⟩, hI'⟩, hz, hk⟩, st'⟩ := hrun T hT X'
  cases hv
  rw [h0] at hz hk
  rw [hv2, ← zm_app] at st'
  obtain ⟨t2, a1, b1⟩ := kk o q rfl hc T'.heap (locs ++ L) ls (by rw [e1]; exact hI')
    ⟨Nat.le_trans hS.1 (by rw [e1]; exact hz), fun q h1 h2 => by rw [e1, hk q (Nat.lt_of_lt_of_le h1 hS.1) h2]; exact hS.2.1 q h1 h2, fun q hq => by
      rcases List.mem_append.mp hq with h | h
      · exact hS.2.2 q h
      · exact hL q h⟩ hl T' rfl X'
  exact ⟨t2, st' t2 a1, b1⟩
theorem z_callIN (X : CallFix p m c cc nL s args wsL_law own)(hK : zK Z b (fun q => b ≤ q) s) (hAO : ∀ C ∈ zAOs, va_AO C s) {y : MethodName} {bytes : ByteArray} {maxL : Nat} {rm : Room} {index n mc ms ci : Nat} {As : List zv} {body : Unit × zS → Option σ} {stk0 : List zv} {f : Nat → Option (Unit × zS)} {r : Option Nat} (hM : ∀ o, zN l Z sp b y (.code y bytes maxL none) rm mc ms (vP (some o) :: As) st (f o)) (hnest : (own, (index, y)) ∈ zNest) 
    (hlk : ∀ w ∈ ([.instanceMethod y, .initialized y.cls, .code y bytes maxL none] : List Cond), w ∈ wsL_law) (hy1 : y.name = "<init>") (hrm : rm.cells = mc ∧ rm.slots = ms) (hd : y.cls ≠ "java/lang/invoke/MethodHandle" ∧ y.cls ≠ "java/lang/invoke/VarHandle" ∧ (parseMethodDescriptor y.desc).map (fun d => d.parameters.length) = some n) (hR : rm.frames + 1 ≤ R.frames ∧ 8 + (maxL + 11) + rm.locals ≤ R.locals) (hcs : cells + mc ≤ R.cells ∧ slots + ms ≤ R.slots)
    (hn : As.length = n) (hst : stk0 = As.reverse ++ vP r :: stk) (hcat : zcats stk ≤ 8) (hdg : decode cc pc = .ok (.invokespecial index, 3))
    (kk : ∀ o q, r = some o → zs p l e R s m args below meth c Q Z sp b (some 0) (fun q => b ≤ q) nL (cells + mc) (slots + ms) res (body q) (pc + 3) lv (stk) q.2) : zs p l e R s m args below meth c Q Z sp b (some 0) (fun q => b ≤ q) nL (cells) (slots) res ((zok sp st r ci).bind fun o => (f o).bind body) (pc) lv (stk0) st := by
  cases hr : zok sp st r ci with
  | none => exact z_none
  | some o =>
  obtain ⟨rfl, ho, hs⟩ := zok_spec hr
  show zs p l e R s m args below meth c Q Z sp b (some 0) (fun q => b ≤ q) nL cells slots res ((f o).bind body) _ _ _ _
  cases hf : f o with
  | none => exact z_none
  | some q =>
  subst hst
  intro hc H locs ls hI hS hl
  have hG : GoodIn wsL_law (.code y bytes maxL none :: wsL_law) := by
    intro w hw
    have hw2 : w ∈ wsL_law := by
      rcases List.mem_cons.mp hw with h | h
      · exact hlk w (by simp [h])
      · exact h
    exact ⟨hw2, zGood w hw2⟩
  have hrun := va_runIN (l := l) (e := e) (below := below) (meth := meth) (H := H) (locs := locs) (cells := cells) (slots := slots) (mc := mc) (ms := ms) (As := zm b As) (rest := zm b stk) (b := b + o) (g := F0 m pc ls (zm b (As.reverse ++ vP (some o) :: stk))) X (hM o q hf) ⟨va_cnB n X.2.2.2.2 hG rfl hrm.1 hrm.2 (hK.2.1.2.2.2.2.2.2 _ hnest) (X.2.2.2.2 _ (hlk _ (by simp))) hd hR, hy1, X.2.2.2.2 _ (hlk _ (by simp))⟩ ⟨fun a U g mk q => ⟨q.1, q.2.1, va_K.moved (u := U) (U := U.calling g mk a) (Vm.Alike.refl U.vm) q.2.2.1, zB_same q.2.2.2.1 rfl rfl, fun C hC => va_AO.moved (u := U) (U := U.calling g mk a) (Vm.Alike.refl U.vm) (q.2.2.2.2 C hC)⟩, fun U hU hW => ⟨rfl, by rw [hU]; exact hI, va_K.moved hW.alike hK.1, zB_warm hK.2.1 hW (fun a h1 h2 => by rw [hU]; exact hS.2.1 a h1 (Nat.not_le.mpr h2)), fun C hC => va_AO.moved hW.alike (hAO C hC)⟩⟩ rfl (by unfold zm; rw [List.length_map]; exact hn) hl.1 (by rw [zm_app]; unfold zm; rw [List.map_reverse]; rfl) (by rw [zcats_eq]; show 2 * 0 + _ ≤ 8; omega) hdg hcs
  intro T hT X'
  obtain ⟨v, st₀, t, T', L, h0, X', hL, e1, e2, ⟨⟨⟨v', hv, hv2⟩, hI'⟩, hz, hk⟩, st'⟩ := hrun T hT X'
  cases hv
  rw [h0] at hz hk
  rw [hv2, ← zm_app] at st'
  obtain ⟨t2, a1, b1⟩ := kk o q rfl hc T'.heap (locs ++ L) ls (by rw [e1]; exact hI')
    ⟨Nat.le_trans hS.1 (by rw [e1]; exact hz), fun q h1 h2 => by rw [e1, hk q (Nat.lt_of_lt_of_le h1 hS.1) h2]; exact hS.2.1 q h1 h2, fun q hq => by
      rcases List.mem_append.mp hq with h | h
      · exact hS.2.2 q h
      · exact hL q h⟩ hl T' rfl X'
  exact ⟨t2, st' t2 a1, b1⟩
end ZNEW
theorem z_startN {l : Launch} {Z : zZ} {sp : Nat → Nat × Nat} {b : Nat} {lv : List (Nat × zv)} {st : zS} {cc : ByteArray} {own : String} {y : MethodName} {maxL mc ms : Nat} {rm : Room} {as : List zv} {co : Option (Unit × zS)} (hown : y.cls = own) (hname : y.name = "<init>") (hy : plainFor y = true) (hlen : zcats as ≤ maxL) (hlv : zargs 0 as = lv)
    (h : ∀ (p : Program) (e : Env) (s : State) (m : MethodId) (args : Array Value) (below : List Frame) (meth : Method) (c : Code) (res : Unit × zS) (Q : State → Prop), CallFix p m c cc maxL s args wsL_law own → zK Z b (fun q => b ≤ q) s → (∀ C ∈ zAOs, va_AO C s) → meth.name = "<init>" → meth.sig.returnType = none → meth.locks = false → Q = MQ below (zQ rV Z sp b (some 0) (fun q => b ≤ q) res) args s mc ms (fun q => b ≤ q) → zs p l e rm s m args below meth c Q Z sp b (some 0) (fun q => b ≤ q) maxL 0 0 res co 0 lv [] st) : zN l Z sp b y (.code y cc maxL none) rm mc ms as st co := by
  intro res hres
  refine va_MetF (cc := cc) (maxL := maxL) (ret := none) hy rfl ?_
  intro p e s m args below meth c s₁ B hml hv
  obtain ⟨rfl, hI, hK, hB, hAO⟩ := hv
  have hts := atoms_spec (ws := .code y cc maxL none :: wsL_law) B.pre
  have hown : s.vm.findClass own = some m.cls := by rw [← hown]; exact findClass_of_methodNamed B.named
  have hl := lv_entry (zm b as) (n := maxL) (by rw [zsl_len]; exact hlen)
  rw [lg_entry_eq]
  generalize (lg_sl (zm b as) ++ List.replicate (maxL - (lg_sl (zm b as)).length) Slot.unset).toArray = ls at hl ⊢
  rw [zargs_eq, hlv] at hl
  exact h p e s m _ below meth c res _ ⟨B.exec, B.bytes, hml, hown, fun w hw => hts w (List.mem_cons_of_mem _ hw)⟩ ⟨hK, hB, fun q h => h⟩ hAO ((name_of_methodNamed B.named B.method).1.trans hname) B.returns B.notSynchronized rfl hres s.heap [] ls hI va_S.rf hl
