/-! the world of one side: its objects by their numbers o (the cell b + o), a state zS: how many, what slots of ints, longs, references hold; the judgement zs: from this frame the machine ends as the pure computation says -/
abbrev zS : Type := Nat × (Nat → Nat → Int32) × (Nat → Int64) × (Nat → Nat → Option Nat)
/-- classes, array classes; the cells outside: the row KIND_ABOVE, the Strings, their bytes -/
abbrev zZ : Type := va_G × ((Nat → ClassId) × (Nat × ((Nat → Nat) × (Nat → Nat))))
abbrev zv : Type := Int32 ⊕ (Int64 ⊕ (Option Nat ⊕ Nat))
abbrev vI (x : Int32) : zv := .inl x
abbrev vL (x : Int64) : zv := .inr (.inl x)
abbrev vP (r : Option Nat) : zv := .inr (.inr (.inl r))
abbrev vA (a : Nat) : zv := .inr (.inr (.inr a))
def zrv (b : Nat) (r : Option Nat) : Value := va_rf (r.map (fun o => b + o))
def zval (b : Nat) : zv → Value
  | .inl x => .int x
  | .inr (.inl x) => .long x
  | .inr (.inr (.inl r)) => zrv b r
  | .inr (.inr (.inr a)) => .ref a
def zcat : zv → Nat
  | .inl _ => 1
  | .inr (.inl _) => 2
  | .inr (.inr _) => 1
theorem zrv_cat (b : Nat) (r : Option Nat) : (zrv b r).category = 1 := by cases r <;> rfl
theorem zval_cat (b : Nat) (v : zv) : (zval b v).category = zcat v := by
  rcases v with x | x | r | a
  · rfl
  · rfl
  · exact zrv_cat b r
  · rfl
def zm (b : Nat) (stk : List zv) : List Value := stk.map (zval b)
def zl (b : Nat) (lv : List (Nat × zv)) : List (Nat × Value) := lv.map (fun q => (q.1, zval b q.2))
def zput (i : Nat) (v : zv) (lv : List (Nat × zv)) : List (Nat × zv) := (i, v) :: lv.filter (fun q => !(q.1 == i) && !(q.1 + 1 == i && zcat q.2 == 2))
def zputL (i : Nat) (v : zv) (lv : List (Nat × zv)) : List (Nat × zv) := (i, v) :: lv.filter (fun q => !(q.1 == i) && (!(q.1 == i + 1) && !(q.1 + 1 == i && zcat q.2 == 2)))
theorem zl_put (b i : Nat) (v : zv) (lv : List (Nat × zv)) : (i, zval b v) :: (zl b lv).filter (fun q => !(q.1 == i) && !(q.1 + 1 == i && q.2.category == 2)) = zl b (zput i v lv) := by
  show _ :: _ = _ :: _
  congr 1
  unfold zl
  rw [List.filter_map]
  congr 1
  apply List.filter_congr
  intro q _
  simp only [Function.comp, zval_cat]
theorem zl_putL (b i : Nat) (v : zv) (lv : List (Nat × zv)) : (i, zval b v) :: (zl b lv).filter (fun q => !(q.1 == i) && (!(q.1 == i + 1) && !(q.1 + 1 == i && q.2.category == 2))) = zl b (zputL i v lv) := by
  show _ :: _ = _ :: _
  congr 1
  unfold zl
  rw [List.filter_map]
  congr 1
  apply List.filter_congr
  intro q _
  simp only [Function.comp, zval_cat]
def zargs : Nat → List zv → List (Nat × zv)
  | _, [] => []
  | i, v :: vs => (i, v) :: zargs (if zcat v = 2 then i + 2 else i + 1) vs
theorem zargs_eq (b : Nat) : ∀ (vs : List zv) (i : Nat), lv_args i (zm b vs) = zl b (zargs i vs)
  | [], _ => rfl
  | v :: vs, i => by
    show (i, zval b v) :: lv_args _ (zm b vs) = (i, zval b v) :: zl b (zargs _ vs)
    rw [zval_cat, zargs_eq b vs]
def zcats : List zv → Nat
  | [] => 0
  | v :: vs => zcat v + zcats vs
theorem zcats_eq (b : Nat) : ∀ vs : List zv, ((zm b vs).map fun v => v.category).sum = zcats vs
  | [] => rfl
  | v :: vs => by
    show ((zval b v :: zm b vs).map fun v => v.category).sum = zcat v + zcats vs
    rw [List.map_cons, List.sum_cons, zval_cat, zcats_eq b vs]
theorem zsl_len (b : Nat) : ∀ vs : List zv, (lg_sl (zm b vs)).length = zcats vs
  | [] => rfl
  | v :: vs => by
    have ih := zsl_len b vs
    unfold lg_sl at ih ⊢
    show (List.flatMap _ (zval b v :: zm b vs)).length = zcat v + zcats vs
    rw [List.flatMap_cons, List.length_append, ih, zval_cat]
    rcases v with x | x | r | a <;> rfl
def zget (lv : List (Nat × zv)) (k i : Nat) (v : zv) : Prop := lv[k]? = some (i, v)
theorem zl_at {b nL : Nat} {ls : Array Slot} {lv : List (Nat × zv)} (h : lv_has ls nL (zl b lv)) {k i : Nat} {v : zv} (hk : lv[k]? = some (i, v)) : ls[i]? = some (.val (zval b v)) :=
  lv_at h k (by unfold zl; rw [List.getElem?_map, hk]; rfl)
def zg : Nat → Nat → Nat
  | 1, 0 => 2 | 1, 1 => 2
  | 2, 0 => 2 | 2, 1 => 2
  | 3, 0 => 2
  | 4, 0 => 2 | 4, 1 => 2 | 4, 2 => 2
  | 5, 0 => 2 | 5, 1 => 2 | 5, 2 => 2 | 5, 3 => 2
  | 6, 0 => 2 | 6, 1 => 2 | 6, 2 => 2
  | 7, 0 => 2
  | 7, 1 => 2
  | 7, 2 => 2
  | 7, 3 => 2
  | 7, 4 => 2
  | 7, 5 => 2
  | 7, 6 => 2
  | 7, 7 => 2
  | 7, 8 => 2
  | 8, 1 => 2
  | 8, 2 => 2
  | 8, 5 => 2
  | 8, 8 => 2
  | 8, 9 => 2
  | 8, 10 => 2
  | 8, 12 => 2
  | 8, 30 => 2
  | 8, 36 => 2
  | 8, 37 => 2
  | 8, 38 => 2
  | 8, 42 => 2
  | 8, 43 => 2
  | 8, 44 => 2
  | 8, 45 => 2
  | 8, 24 => 1
  | _, _ => 0
def zV (b : Nat) (st : zS) (k o j : Nat) : Value := match zg k j with
  | 0 => .int (st.2.1 o j)
  | 1 => .long (st.2.2.1 o)
  | _ => zrv b (st.2.2.2 o j)
def zE (Z : zZ) (sp : Nat → Nat × Nat) (b : Nat) (st : zS) (o : Nat) : va_E :=
  if (sp o).1 < 9 then .inr ((sp o).1, (List.range (sp o).2).map (fun j => zV b st (sp o).1 o j))
  else if (sp o).1 < 11 then .inl (Z.2.1 ((sp o).1 - 9), (sp o).2, .inl (fun j => st.2.1 o j))
  else .inl (Z.2.1 ((sp o).1 - 9), (sp o).2, .inr (.inr (.inr (.inr (fun j => (st.2.2.2 o j).map (fun a => b + a))))))
def zW (Z : zZ) (sp : Nat → Nat × Nat) (b : Nat) (st : zS) : va_W := (List.range st.1).map (fun o => (b + o, zE Z sp b st o))
def zT (dA : Nat → ClassId) : List (ClassId × FieldType) := [(dA 0, .int), (dA 1, .boolean), (dA 2, .object RX0), (dA 3, .object RX3), (dA 4, .object RX4)]
def zsz (b n : Nat) (x : Option Nat) (sz : Nat) : Prop := match x with
  | some k => sz = b + n + k
  | none => True
def zI (Z : zZ) (sp : Nat → Nat × Nat) (b : Nat) (x : Option Nat) (A : Nat → Prop) (st : zS) (H : Heap) : Prop := zsz b st.1 x H.size ∧ (∀ o, o < st.1 → A (b + o)) ∧ va_P Z.1 vwCl (zW Z sp b st) H
theorem zW_at {Z : zZ} {sp : Nat → Nat × Nat} {b : Nat} {st : zS} {o : Nat} (h : o < st.1) : (zW Z sp b st)[o]? = some (b + o, zE Z sp b st o) := by
  unfold zW
  rw [List.getElem?_map, List.getElem?_range h]
  rfl
theorem zW_D {Z : zZ} {sp : Nat → Nat × Nat} {b : Nat} {st : zS} {A : Nat → Prop} (h : ∀ o, o < st.1 → A (b + o)) : va_D A (zW Z sp b st) := by
  have key : ∀ (k : Nat) (q : Nat × va_E), (zW Z sp b st)[k]? = some q → k < st.1 ∧ q.1 = b + k := by
    intro k q hq
    have hk : k < st.1 := by
      have := (List.getElem?_eq_some_iff.mp hq).1
      unfold zW at this
      simpa using this
    rw [zW_at hk] at hq
    cases hq
    exact ⟨hk, rfl⟩
  refine ⟨fun i j p q hi hj hpq => ?_, fun k q hk => ?_⟩
  · obtain ⟨_, e1⟩ := key i p hi
    obtain ⟨_, e2⟩ := key j q hj
    omega
  · obtain ⟨h1, e1⟩ := key k q hk
    rw [e1]
    exact h k h1
theorem zW_set {Z : zZ} {sp : Nat → Nat × Nat} {b : Nat} {st st' : zS} {o : Nat} (hn : st'.1 = st.1) (hE : ∀ o', o' ≠ o → zE Z sp b st' o' = zE Z sp b st o') : (zW Z sp b st).set o (b + o, zE Z sp b st' o) = zW Z sp b st' := by
  apply List.ext_getElem?
  intro k
  by_cases hk : k < st.1
  · by_cases ho : o = k
    · subst ho
      have hl : o < (zW Z sp b st).length := by unfold zW; simpa using hk
      rw [List.getElem?_set_self hl, zW_at (by rw [hn]; exact hk)]
    · rw [List.getElem?_set_ne ho, zW_at hk, zW_at (by rw [hn]; exact hk), hE k (fun e => ho e.symm)]
  · have h1 : (zW Z sp b st).length ≤ k := by unfold zW; simpa using hk
    have h2 : (zW Z sp b st').length ≤ k := by unfold zW; rw [List.length_map, List.length_range, hn]; exact Nat.not_lt.mp hk
    rw [List.getElem?_eq_none (by rw [List.length_set]; exact h1), List.getElem?_eq_none h2]
/-- the pure operations -/
def zp (st : zS) (o k : Nat) (v : Int32) : zS := (st.1, (fun a j => if a = o ∧ j = k then v else st.2.1 a j), st.2.2.1, st.2.2.2)
def zpl (st : zS) (o : Nat) (v : Int64) : zS := (st.1, st.2.1, (fun a => if a = o then v else st.2.2.1 a), st.2.2.2)
def zpr (st : zS) (o k : Nat) (v : Option Nat) : zS := (st.1, st.2.1, st.2.2.1, (fun a j => if a = o ∧ j = k then v else st.2.2.2 a j))
def zok (sp : Nat → Nat × Nat) (st : zS) (r : Option Nat) (k : Nat) : Option Nat := match r with
  | none => none
  | some o => if o < st.1 ∧ (sp o).1 = k then some o else none
def zix (sp : Nat → Nat × Nat) (o : Nat) (i : Int32) : Option Nat := if i < 0 ∨ (sp o).2 ≤ i.toNatClampNeg then none else some i.toNatClampNeg
def zla (sp : Nat → Nat × Nat) (st : zS) (r : Option Nat) : Option Nat := match r with
  | none => none
  | some o => if o < st.1 ∧ 9 ≤ (sp o).1 then some o else none
theorem zla_spec {sp : Nat → Nat × Nat} {st : zS} {r : Option Nat} {o : Nat} (h : zla sp st r = some o) : r = some o ∧ o < st.1 ∧ 9 ≤ (sp o).1 := by
  unfold zla at h
  cases r with
  | none => cases h
  | some o' =>
    dsimp only at h
    split at h
    · rename_i hc
      cases h
      exact ⟨rfl, hc.1, hc.2⟩
    · cases h
theorem zok_spec {sp : Nat → Nat × Nat} {st : zS} {r : Option Nat} {k o : Nat} (h : zok sp st r k = some o) : r = some o ∧ o < st.1 ∧ (sp o).1 = k := by
  unfold zok at h
  cases r with
  | none => cases h
  | some o' =>
    dsimp only at h
    split at h
    · rename_i hc
      cases h
      exact ⟨rfl, hc.1, hc.2⟩
    · cases h
theorem zix_spec {sp : Nat → Nat × Nat} {o j : Nat} {i : Int32} (h : zix sp o i = some j) : vp_in i (sp o).2 ∧ i.toNatClampNeg = j := by
  unfold zix at h
  split at h
  · cases h
  · rename_i hc
    cases h
    exact ⟨hc, rfl⟩
theorem zp_E {Z : zZ} {sp : Nat → Nat × Nat} {b : Nat} {st : zS} {o k : Nat} {v : Int32} : ∀ o', o' ≠ o → zE Z sp b (zp st o k v) o' = zE Z sp b st o' := by
  intro o' h
  unfold zE zp zV
  simp [h]
theorem zpl_E {Z : zZ} {sp : Nat → Nat × Nat} {b : Nat} {st : zS} {o : Nat} {v : Int64} : ∀ o', o' ≠ o → zE Z sp b (zpl st o v) o' = zE Z sp b st o' := by
  intro o' h
  unfold zE zpl zV
  simp [h]
theorem zpr_E {Z : zZ} {sp : Nat → Nat × Nat} {b : Nat} {st : zS} {o k : Nat} {v : Option Nat} : ∀ o', o' ≠ o → zE Z sp b (zpr st o k v) o' = zE Z sp b st o' := by
  intro o' h
  unfold zE zpr zV
  simp [h]
theorem zset_ext (n k : Nat) (f g : Nat → Value) (hk : g k = f k → True) (h : ∀ j, j ≠ k → g j = f j) : ((List.range n).map f).set k (g k) = (List.range n).map g := by
  apply List.ext_getElem?
  intro j
  by_cases hj : j < n
  · by_cases e : k = j
    · subst e
      rw [List.getElem?_set_self (by simpa using hj), List.getElem?_map, List.getElem?_range hj]
      rfl
    · rw [List.getElem?_set_ne e, List.getElem?_map, List.getElem?_map, List.getElem?_range hj]
      simp [h j (fun q => e q.symm)]
  · rw [List.getElem?_eq_none (by simpa using hj), List.getElem?_eq_none (by simpa using hj)]
theorem zE_obj {Z : zZ} {sp : Nat → Nat × Nat} {b : Nat} {st : zS} {o ci : Nat} (h : (sp o).1 = ci) (hc : ci < 9) : zE Z sp b st o = .inr (ci, (List.range (sp o).2).map (fun j => zV b st ci o j)) := by
  unfold zE
  rw [if_pos (by omega), h]
theorem zE_arr {Z : zZ} {sp : Nat → Nat × Nat} {b : Nat} {st : zS} {o ci : Nat} (h : (sp o).1 = ci) (hc : 9 ≤ ci ∧ ci < 11) : zE Z sp b st o = .inl (Z.2.1 (ci - 9), (sp o).2, .inl (fun j => st.2.1 o j)) := by
  unfold zE
  rw [if_neg (by omega), if_pos (by omega), h]
theorem zE_ref {Z : zZ} {sp : Nat → Nat × Nat} {b : Nat} {st : zS} {o ci : Nat} (h : (sp o).1 = ci) (hc : 11 ≤ ci) : zE Z sp b st o = .inl (Z.2.1 (ci - 9), (sp o).2, .inr (.inr (.inr (.inr (fun j => (st.2.2.2 o j).map (fun a => b + a)))))) := by
  unfold zE
  rw [if_neg (by omega), if_neg (by omega), h]
def zA (b n : Nat) : Nat → Prop := fun q => b ≤ q ∧ q < b + n
def zKA (j : Nat) : Value := .int (([-1, 0, 0, 1, 2, 0] : List Int32).getD j 0)
def zLen : List Nat := [5, 5, 4, 6, 3, 3, 5, 5, 5, 2, 3, 3]
def zTxt : List String := ["thing", "words", "ways", "number", "day", "had", "gives", "glads", "costs", "or", "and", "not"]
def zByt : List (List Int32) := [[116, 104, 105, 110, 103], [119, 111, 114, 100, 115], [119, 97, 121, 115], [110, 117, 109, 98, 101, 114], [100, 97, 121], [104, 97, 100], [103, 105, 118, 101, 115], [103, 108, 97, 100, 115], [99, 111, 115, 116, 115], [111, 114], [97, 110, 100], [110, 111, 116]]
def zIdx : List Nat := [64, 72, 74, 76, 78, 80, 82, 84, 86, 88, 90, 92]
def zNest : List (String × (Nat × MethodName)) := [("WellGivesOther$Picture", (25, yX0_init)), ("WellGivesOther", (64, yX0_init)), ("WellGivesOther", (65, yX4_init)), ("WellGivesOther", (66, yX3_init))]
/-- what lies outside: a static row of numbers, twelve Strings -/
def zB (E : Nat × ((Nat → Nat) × (Nat → Nat))) (b : Nat) (U : State) : Prop := va_Z "WellGivesOther" "KIND_ABOVE" "[I" (.ref E.1) (fun q => b ≤ q) U U.heap ∧ va_T .int E.1 6 zKA (fun q => b ≤ q) U U.heap ∧ va_Z "java/lang/String" "COMPACT_STRINGS" "Z" (.int 1) (fun q => b ≤ q) U U.heap ∧ vk_S 12 zLen zByt E.2.1 E.2.2 (fun q => b ≤ q) U U.heap ∧ (∀ i, i < 12 → vk_R "WellGivesOther$Tokens" (zIdx.getD i 0) (zTxt.getD i "") (E.2.1 i) U) ∧ va_Zq "jdk/internal/util/Preconditions" "SIOOBE_FORMATTER" "Ljava/util/function/BiFunction;" (fun q => b ≤ q) U U.heap ∧ ∀ q ∈ zNest, va_Nw (.methodLinkNest q.1 q.2.1 q.2.2 "WellGivesOther") U
theorem zB_warm {E : Nat × ((Nat → Nat) × (Nat → Nat))} {b : Nat} {s U : State} (h : zB E b s) (hW : s.WarmedH U.vm) (hq : ∀ a : Nat, a < s.heap.size → a < b → U.heap[a]? = s.heap[a]?) : zB E b U := by
  have hq' : ∀ a : Nat, a < s.heap.size → ¬ b ≤ a → U.heap[a]? = s.heap[a]? := fun a h1 h2 => hq a h1 (Nat.not_le.mp h2)
  obtain ⟨h1, h2, h3, h4, h5, h6, h7⟩ := h
  exact ⟨(h1.kept hq').moved hW.alike, (h2.kept hq').moved hW.alike, (h3.kept hq').moved hW.alike, (h4.kept hq').moved hW.alike, fun i hi => (h5 i hi).warm hW, (h6.kept hq').moved hW.alike, fun q hq => (h7 q hq).warmM hW⟩
theorem zB_same {E : Nat × ((Nat → Nat) × (Nat → Nat))} {b : Nat} {s U : State} (h : zB E b s) (hv : U.vm = s.vm) (hh : U.heap = s.heap) : zB E b U := by
  have ha : s.vm.Alike U.vm := by rw [hv]; exact Vm.Alike.refl _
  have hq' : ∀ a : Nat, a < s.heap.size → ¬ b ≤ a → U.heap[a]? = s.heap[a]? := fun a _ _ => by rw [hh]
  obtain ⟨h1, h2, h3, h4, h5, h6, h7⟩ := h
  exact ⟨(h1.kept hq').moved ha, (h2.kept hq').moved ha, (h3.kept hq').moved ha, (h4.kept hq').moved ha, fun i hi => (h5 i hi).same hv, (h6.kept hq').moved ha, fun q hq => (h7 q hq).same rfl hv.symm⟩
def zK (Z : zZ) (b : Nat) (A : Nat → Prop) (s : State) : Prop := va_K Z.1 vwCl (zT Z.2.1) s ∧ zB Z.2.2 b s ∧ ∀ q, A q → b ≤ q
def zPc (args : List Value) (Z : zZ) (sp : Nat → Nat × Nat) (b : Nat) (x : Option Nat) (A : Nat → Prop) (st : zS) : Array Value → State → Prop := va_Pc args (fun U => zI Z sp b x A st U.heap ∧ va_K Z.1 vwCl (zT Z.2.1) U ∧ zB Z.2.2 b U)
def zQ {ρ : Type} (rho : ρ → List zv) (Z : zZ) (sp : Nat → Nat × Nat) (b : Nat) (x : Option Nat) (A : Nat → Prop) (res : ρ × zS) : Array Value → State → Outcome → State → Prop := fun _ st0 oc t => ((∃ v : Option Value, oc = .returned v ∧ v.toList = zm b (rho res.1)) ∧ zI Z sp b x A res.2 t.heap) ∧ va_F A st0 t
def zC {ρ : Type} (l : Launch) (Z : zZ) (sp : Nat → Nat × Nat) (b : Nat) (x : Option Nat) (y : MethodName) (cw : Cond) (rm : Room) (rho : ρ → List zv) (args : List zv) (st : zS) (co : Option (ρ × zS)) : Prop :=
  ∀ res, co = some res → Met l y (cw :: wsL_law) rm (zPc (zm b args) Z sp b x (zA b st.1) st) (zQ rho Z sp b x (zA b st.1) res) 0 0 (zA b st.1)
abbrev rI (x : Int32) : List zv := [.inl x]
abbrev rL (x : Int64) : List zv := [.inr (.inl x)]
abbrev rP (r : Option Nat) : List zv := [.inr (.inr (.inl r))]
abbrev rV (_ : Unit) : List zv := []
def zs (p : Program) (l : Launch) (e : Env) (R : Room) (s : State) (m : MethodId) (args : Array Value) (below : List Frame) (meth : Method) (c : Code) (Q : State → Prop) (Z : zZ) (sp : Nat → Nat × Nat) (b : Nat) (x : Option Nat) (A : Nat → Prop) (nL cells slots : Nat) {σ : Type} (res : σ) (co : Option σ) (pc : Nat) (lv : List (Nat × zv)) (stk : List zv) (st : zS) : Prop :=
  co = some res → ∀ (H : Heap) (locs : List Loc) (ls : Array Slot), zI Z sp b x A st H → va_S A s.heap H locs → lv_has ls nL (zl b lv) → W p l e R s m args below meth c H locs cells slots Q (F0 m pc ls (zm b stk))
def zlet {α β : Type} (e : α) (f : α → β) : β := f e
section ZROWS
variable {p : Program} {l : Launch} {e : Env} {R : Room} {s : State} {m : MethodId} {args : Array Value} {below : List Frame} {meth : Method} {c : Code} {Q : State → Prop} {Z : zZ} {sp : Nat → Nat × Nat} {b : Nat} {x : Option Nat} {A : Nat → Prop} {nL cells slots : Nat} {σ : Type} {res : σ} {co co1 co2 : Option σ} {pc : Nat} {lv lv' : List (Nat × zv)} {stk : List zv} {st : zS} {cc : ByteArray} {own : String}
theorem z_none  : zs p l e R s m args below meth c Q Z sp b x A nL cells slots res none (pc) lv (stk) st :=
  fun h => by cases h
theorem z_eq (h : co = co1) (k : zs p l e R s m args below meth c Q Z sp b x A nL cells slots res co1 (pc) lv (stk) st) : zs p l e R s m args below meth c Q Z sp b x A nL cells slots res co (pc) lv (stk) st :=
  h ▸ k
theorem z_ite {P : Prop} [Decidable P] (kt : P → zs p l e R s m args below meth c Q Z sp b x A nL cells slots res co1 (pc) lv (stk) st) (kf : ¬ P → zs p l e R s m args below meth c Q Z sp b x A nL cells slots res co2 (pc) lv (stk) st) : zs p l e R s m args below meth c Q Z sp b x A nL cells slots res (if P then co1 else co2) (pc) lv (stk) st :=
  by
  intro hc
  by_cases h : P
  · rw [if_pos h] at hc
    exact kt h hc
  · rw [if_neg h] at hc
    exact kf h hc
theorem z_sub (ks : List Nat) (k : zs p l e R s m args below meth c Q Z sp b x A nL cells slots res co (pc) lv' (stk) st) (h : ks.filterMap (fun k => lv[k]?) = lv') : zs p l e R s m args below meth c Q Z sp b x A nL cells slots res co (pc) lv (stk) st :=
  fun hc H locs ls hI hS hl => k hc H locs ls hI hS (lv_sub hl ks (by subst h; unfold lv_pick zl; rw [List.map_filterMap]; congr 1; funext k; rw [List.getElem?_map]))
theorem z_name {v : Int32} {f : Int32 → Option σ} (k : ∀ y, zs p l e R s m args below meth c Q Z sp b x A nL cells slots res (f y) (pc) lv (.inl y :: stk) st) : zs p l e R s m args below meth c Q Z sp b x A nL cells slots res (zlet v f) (pc) lv (.inl v :: stk) st :=
  k v
theorem z_nameL {v : Int64} {f : Int64 → Option σ} (k : ∀ y, zs p l e R s m args below meth c Q Z sp b x A nL cells slots res (f y) (pc) lv (.inr (.inl y) :: stk) st) : zs p l e R s m args below meth c Q Z sp b x A nL cells slots res (zlet v f) (pc) lv (.inr (.inl v) :: stk) st :=
  k v
theorem z_iconst (X : CallFix p m c cc nL s args wsL_law own) {n : Int} {v : Int32} (hdg : decode cc pc = .ok (.iconst n, 1)) (hv : Int32.ofInt n = v) (k : zs p l e R s m args below meth c Q Z sp b x A nL cells slots res co (pc + 1) lv (.inl v :: stk) st) : zs p l e R s m args below meth c Q Z sp b x A nL cells slots res co (pc) lv (stk) st :=
  fun hc H locs ls hI hS hl => lv_iconst X.1 X.2.1 hdg hv (k hc H locs ls hI hS hl)
theorem z_bipush (X : CallFix p m c cc nL s args wsL_law own) {n : Int} {v : Int32} (hdg : decode cc pc = .ok (.bipush n, 2)) (hv : (Int8.ofInt n).toInt32 = v) (k : zs p l e R s m args below meth c Q Z sp b x A nL cells slots res co (pc + 2) lv (.inl v :: stk) st) : zs p l e R s m args below meth c Q Z sp b x A nL cells slots res co (pc) lv (stk) st :=
  fun hc H locs ls hI hS hl => lv_bipush X.1 X.2.1 hdg hv (k hc H locs ls hI hS hl)
theorem z_sipush (X : CallFix p m c cc nL s args wsL_law own) {n : Int} {v : Int32} (hdg : decode cc pc = .ok (.sipush n, 3)) (hv : (Int16.ofInt n).toInt32 = v) (k : zs p l e R s m args below meth c Q Z sp b x A nL cells slots res co (pc + 3) lv (.inl v :: stk) st) : zs p l e R s m args below meth c Q Z sp b x A nL cells slots res co (pc) lv (stk) st :=
  fun hc H locs ls hI hS hl => lv_sipush X.1 X.2.1 hdg hv (k hc H locs ls hI hS hl)
theorem z_lconst (X : CallFix p m c cc nL s args wsL_law own) {n : Fin 2} {v : Int64} (hdg : decode cc pc = .ok (.lconst n, 1)) (hv : Int64.ofNat (n : Nat) = v) (k : zs p l e R s m args below meth c Q Z sp b x A nL cells slots res co (pc + 1) lv (.inr (.inl v) :: stk) st) : zs p l e R s m args below meth c Q Z sp b x A nL cells slots res co (pc) lv (stk) st :=
  fun hc H locs ls hI hS hl => lv_lconst X.1 X.2.1 hdg hv (k hc H locs ls hI hS hl)
theorem z_null (X : CallFix p m c cc nL s args wsL_law own) (hdg : decode cc pc = .ok (.aconst_null, 1)) (k : zs p l e R s m args below meth c Q Z sp b x A nL cells slots res co (pc + 1) lv (vP none :: stk) st) : zs p l e R s m args below meth c Q Z sp b x A nL cells slots res co (pc) lv (stk) st :=
  fun hc H locs ls hI hS hl => lv_null X.1 X.2.1 hdg (k hc H locs ls hI hS hl)
theorem z_ldc (X : CallFix p m c cc nL s args wsL_law own) {index : Nat} {v : Int32} (hk : Cond.constant own index v ∈ wsL_law) (hdg : decode cc pc = .ok (.ldc index, 2)) (k : zs p l e R s m args below meth c Q Z sp b x A nL cells slots res co (pc + 2) lv (.inl v :: stk) st) : zs p l e R s m args below meth c Q Z sp b x A nL cells slots res co (pc) lv (stk) st :=
  fun hc H locs ls hI hS hl => lv_ldc X.1 X.2.1 X.2.2.2.1 (X.2.2.2.2 _ hk) hdg (k hc H locs ls hI hS hl)
theorem z_ldcw (X : CallFix p m c cc nL s args wsL_law own) {index : Nat} {v : Int32} (hk : Cond.constant own index v ∈ wsL_law) (hdg : decode cc pc = .ok (.ldc_w index, 3)) (k : zs p l e R s m args below meth c Q Z sp b x A nL cells slots res co (pc + 3) lv (.inl v :: stk) st) : zs p l e R s m args below meth c Q Z sp b x A nL cells slots res co (pc) lv (stk) st :=
  fun hc H locs ls hI hS hl => lv_ldcw X.1 X.2.1 X.2.2.2.1 (X.2.2.2.2 _ hk) hdg (k hc H locs ls hI hS hl)
theorem z_ldc2 (X : CallFix p m c cc nL s args wsL_law own) {index : Nat} {v : Int64} (hk : Cond.constantLong own index v ∈ wsL_law) (hdg : decode cc pc = .ok (.ldc2_w index, 3)) (k : zs p l e R s m args below meth c Q Z sp b x A nL cells slots res co (pc + 3) lv (.inr (.inl v) :: stk) st) : zs p l e R s m args below meth c Q Z sp b x A nL cells slots res co (pc) lv (stk) st :=
  fun hc H locs ls hI hS hl => lv_ldc2 X.1 X.2.1 X.2.2.2.1 (X.2.2.2.2 _ hk) hdg (k hc H locs ls hI hS hl)
theorem z_iload_n (X : CallFix p m c cc nL s args wsL_law own) {n : Fin 4} {i q : Nat} {v : Int32} (hdg : decode cc pc = .ok (.iload_n n, 1)) (hi : (n : Nat) = i) (hq : lv[q]? = some (i, .inl v)) (k : zs p l e R s m args below meth c Q Z sp b x A nL cells slots res co (pc + 1) lv (.inl v :: stk) st) : zs p l e R s m args below meth c Q Z sp b x A nL cells slots res co (pc) lv (stk) st :=
  fun hc H locs ls hI hS hl => lv_iload_n X.1 X.2.1 hdg hi (zl_at hl hq) (k hc H locs ls hI hS hl)
theorem z_iload (X : CallFix p m c cc nL s args wsL_law own) {i q : Nat} {v : Int32} (hdg : decode cc pc = .ok (.iload i, 2)) (hq : lv[q]? = some (i, .inl v)) (k : zs p l e R s m args below meth c Q Z sp b x A nL cells slots res co (pc + 2) lv (.inl v :: stk) st) : zs p l e R s m args below meth c Q Z sp b x A nL cells slots res co (pc) lv (stk) st :=
  fun hc H locs ls hI hS hl => lv_iload X.1 X.2.1 hdg (zl_at hl hq) (k hc H locs ls hI hS hl)
theorem z_lload_n (X : CallFix p m c cc nL s args wsL_law own) {n : Fin 4} {i q : Nat} {v : Int64} (hdg : decode cc pc = .ok (.lload_n n, 1)) (hi : (n : Nat) = i) (hq : lv[q]? = some (i, .inr (.inl v))) (k : zs p l e R s m args below meth c Q Z sp b x A nL cells slots res co (pc + 1) lv (.inr (.inl v) :: stk) st) : zs p l e R s m args below meth c Q Z sp b x A nL cells slots res co (pc) lv (stk) st :=
  fun hc H locs ls hI hS hl => lv_lload_n X.1 X.2.1 hdg hi (zl_at hl hq) (k hc H locs ls hI hS hl)
theorem z_lload (X : CallFix p m c cc nL s args wsL_law own) {i q : Nat} {v : Int64} (hdg : decode cc pc = .ok (.lload i, 2)) (hq : lv[q]? = some (i, .inr (.inl v))) (k : zs p l e R s m args below meth c Q Z sp b x A nL cells slots res co (pc + 2) lv (.inr (.inl v) :: stk) st) : zs p l e R s m args below meth c Q Z sp b x A nL cells slots res co (pc) lv (stk) st :=
  fun hc H locs ls hI hS hl => lv_lload X.1 X.2.1 hdg (zl_at hl hq) (k hc H locs ls hI hS hl)
theorem z_aload_n (X : CallFix p m c cc nL s args wsL_law own) {n : Fin 4} {i q : Nat} {r : Option Nat} (hdg : decode cc pc = .ok (.aload_n n, 1)) (hi : (n : Nat) = i) (hq : lv[q]? = some (i, vP r)) (k : zs p l e R s m args below meth c Q Z sp b x A nL cells slots res co (pc + 1) lv (vP r :: stk) st) : zs p l e R s m args below meth c Q Z sp b x A nL cells slots res co (pc) lv (stk) st :=
  by
  intro hc H locs ls hI hS hl
  have h1 := zl_at hl hq
  have h2 := k hc H locs ls hI hS hl
  cases r with
  | none => exact lv_aload_nN X.1 X.2.1 hdg hi h1 h2
  | some o => exact lv_aload_n X.1 X.2.1 hdg hi h1 h2
theorem z_aloadA_n (X : CallFix p m c cc nL s args wsL_law own) {n : Fin 4} {i q a : Nat} (hdg : decode cc pc = .ok (.aload_n n, 1)) (hi : (n : Nat) = i) (hq : lv[q]? = some (i, vA a)) (k : zs p l e R s m args below meth c Q Z sp b x A nL cells slots res co (pc + 1) lv (vA a :: stk) st) : zs p l e R s m args below meth c Q Z sp b x A nL cells slots res co (pc) lv (stk) st :=
  fun hc H locs ls hI hS hl => lv_aload_n X.1 X.2.1 hdg hi (zl_at hl hq) (k hc H locs ls hI hS hl)
theorem z_astore_n (X : CallFix p m c cc nL s args wsL_law own) {n : Fin 4} {i : Nat} {r : Option Nat} (hdg : decode cc pc = .ok (.astore_n n, 1)) (hi : (n : Nat) = i) (hn : i < nL) (hlv : zput i (vP r) lv = lv') (k : zs p l e R s m args below meth c Q Z sp b x A nL cells slots res co (pc + 1) lv' (stk) st) : zs p l e R s m args below meth c Q Z sp b x A nL cells slots res co (pc) lv (vP r :: stk) st :=
  by
  intro hc H locs ls hI hS hl
  subst hlv
  cases r with
  | none => exact lv_astore_nN X.1 X.2.1 hdg hi hl hn (zl_put b i (vP none) lv) (fun ls' hl' => k hc H locs ls' hI hS hl')
  | some o => exact lv_astore_n X.1 X.2.1 hdg hi hl hn (zl_put b i (vP (some o)) lv) (fun ls' hl' => k hc H locs ls' hI hS hl')
theorem z_aload (X : CallFix p m c cc nL s args wsL_law own) {i q : Nat} {r : Option Nat} (hdg : decode cc pc = .ok (.aload i, 2)) (hq : lv[q]? = some (i, vP r)) (k : zs p l e R s m args below meth c Q Z sp b x A nL cells slots res co (pc + 2) lv (vP r :: stk) st) : zs p l e R s m args below meth c Q Z sp b x A nL cells slots res co (pc) lv (stk) st :=
  by
  intro hc H locs ls hI hS hl
  have h1 := zl_at hl hq
  have h2 := k hc H locs ls hI hS hl
  cases r with
  | none => exact lv_aloadN X.1 X.2.1 hdg h1 h2
  | some o => exact lv_aload X.1 X.2.1 hdg h1 h2
theorem z_aloadA (X : CallFix p m c cc nL s args wsL_law own) {i q a : Nat} (hdg : decode cc pc = .ok (.aload i, 2)) (hq : lv[q]? = some (i, vA a)) (k : zs p l e R s m args below meth c Q Z sp b x A nL cells slots res co (pc + 2) lv (vA a :: stk) st) : zs p l e R s m args below meth c Q Z sp b x A nL cells slots res co (pc) lv (stk) st :=
  fun hc H locs ls hI hS hl => lv_aload X.1 X.2.1 hdg (zl_at hl hq) (k hc H locs ls hI hS hl)
theorem z_astore (X : CallFix p m c cc nL s args wsL_law own) {i : Nat} {r : Option Nat} (hdg : decode cc pc = .ok (.astore i, 2)) (hn : i < nL) (hlv : zput i (vP r) lv = lv') (k : zs p l e R s m args below meth c Q Z sp b x A nL cells slots res co (pc + 2) lv' (stk) st) : zs p l e R s m args below meth c Q Z sp b x A nL cells slots res co (pc) lv (vP r :: stk) st :=
  by
  intro hc H locs ls hI hS hl
  subst hlv
  cases r with
  | none => exact lv_astoreN X.1 X.2.1 hdg hl hn (zl_put b i (vP none) lv) (fun ls' hl' => k hc H locs ls' hI hS hl')
  | some o => exact lv_astore X.1 X.2.1 hdg hl hn (zl_put b i (vP (some o)) lv) (fun ls' hl' => k hc H locs ls' hI hS hl')
theorem z_istore_n (X : CallFix p m c cc nL s args wsL_law own) {n : Fin 4} {i : Nat} {v : Int32} (hdg : decode cc pc = .ok (.istore_n n, 1)) (hi : (n : Nat) = i) (hn : i < nL) (hlv : zput i (.inl v) lv = lv') (k : zs p l e R s m args below meth c Q Z sp b x A nL cells slots res co (pc + 1) lv' (stk) st) : zs p l e R s m args below meth c Q Z sp b x A nL cells slots res co (pc) lv (.inl v :: stk) st :=
  fun hc H locs ls hI hS hl => lv_istore_n X.1 X.2.1 hdg hi hl hn ((zl_put b i (.inl v) lv).trans (congrArg (zl b) hlv)) (fun ls' hl' => k hc H locs ls' hI hS hl')
theorem z_istore (X : CallFix p m c cc nL s args wsL_law own) {i : Nat} {v : Int32} (hdg : decode cc pc = .ok (.istore i, 2)) (hn : i < nL) (hlv : zput i (.inl v) lv = lv') (k : zs p l e R s m args below meth c Q Z sp b x A nL cells slots res co (pc + 2) lv' (stk) st) : zs p l e R s m args below meth c Q Z sp b x A nL cells slots res co (pc) lv (.inl v :: stk) st :=
  fun hc H locs ls hI hS hl => lv_istore X.1 X.2.1 hdg hl hn ((zl_put b i (.inl v) lv).trans (congrArg (zl b) hlv)) (fun ls' hl' => k hc H locs ls' hI hS hl')
theorem z_lstore_n (X : CallFix p m c cc nL s args wsL_law own) {n : Fin 4} {i : Nat} {v : Int64} (hdg : decode cc pc = .ok (.lstore_n n, 1)) (hi : (n : Nat) = i) (hn : i + 1 < nL) (hlv : zputL i (.inr (.inl v)) lv = lv') (k : zs p l e R s m args below meth c Q Z sp b x A nL cells slots res co (pc + 1) lv' (stk) st) : zs p l e R s m args below meth c Q Z sp b x A nL cells slots res co (pc) lv (.inr (.inl v) :: stk) st :=
  fun hc H locs ls hI hS hl => lv_lstore_n X.1 X.2.1 hdg hi hl hn ((zl_putL b i (.inr (.inl v)) lv).trans (congrArg (zl b) hlv)) (fun ls' hl' => k hc H locs ls' hI hS hl')
theorem z_lstore (X : CallFix p m c cc nL s args wsL_law own) {i : Nat} {v : Int64} (hdg : decode cc pc = .ok (.lstore i, 2)) (hn : i + 1 < nL) (hlv : zputL i (.inr (.inl v)) lv = lv') (k : zs p l e R s m args below meth c Q Z sp b x A nL cells slots res co (pc + 2) lv' (stk) st) : zs p l e R s m args below meth c Q Z sp b x A nL cells slots res co (pc) lv (.inr (.inl v) :: stk) st :=
  fun hc H locs ls hI hS hl => lv_lstore X.1 X.2.1 hdg hl hn ((zl_putL b i (.inr (.inl v)) lv).trans (congrArg (zl b) hlv)) (fun ls' hl' => k hc H locs ls' hI hS hl')
theorem z_iinc (X : CallFix p m c cc nL s args wsL_law own) {i q : Nat} {n : Int} {v y : Int32} (hdg : decode cc pc = .ok (.iinc i n, 3)) (hq : lv[q]? = some (i, vI v)) (hv : v + Int32.ofInt n = y) (hn : i < nL) (hlv : zput i (vI y) lv = lv') (k : zs p l e R s m args below meth c Q Z sp b x A nL cells slots res co (pc + 3) lv' (stk) st) : zs p l e R s m args below meth c Q Z sp b x A nL cells slots res co (pc) lv (stk) st :=
  fun hc H locs ls hI hS hl => lv_iinc X.1 X.2.1 hdg hl (by unfold zl; rw [List.getElem?_map, hq]; rfl) hv hn ((zl_put b i (vI y) lv).trans (congrArg (zl b) hlv)) (fun ls' hl' => k hc H locs ls' hI hS hl')
theorem z_iadd (X : CallFix p m c cc nL s args wsL_law own) {v y : Int32} (hdg : decode cc pc = .ok (.iadd, 1)) (k : zs p l e R s m args below meth c Q Z sp b x A nL cells slots res co (pc + 1) lv (.inl (v + y) :: stk) st) : zs p l e R s m args below meth c Q Z sp b x A nL cells slots res co (pc) lv (.inl y :: .inl v :: stk) st :=
  fun hc H locs ls hI hS hl => lv_iadd X.1 X.2.1 hdg (k hc H locs ls hI hS hl)
theorem z_isub (X : CallFix p m c cc nL s args wsL_law own) {v y : Int32} (hdg : decode cc pc = .ok (.isub, 1)) (k : zs p l e R s m args below meth c Q Z sp b x A nL cells slots res co (pc + 1) lv (.inl (v - y) :: stk) st) : zs p l e R s m args below meth c Q Z sp b x A nL cells slots res co (pc) lv (.inl y :: .inl v :: stk) st :=
  fun hc H locs ls hI hS hl => lv_isub X.1 X.2.1 hdg (k hc H locs ls hI hS hl)
theorem z_imul (X : CallFix p m c cc nL s args wsL_law own) {v y : Int32} (hdg : decode cc pc = .ok (.imul, 1)) (k : zs p l e R s m args below meth c Q Z sp b x A nL cells slots res co (pc + 1) lv (.inl (v * y) :: stk) st) : zs p l e R s m args below meth c Q Z sp b x A nL cells slots res co (pc) lv (.inl y :: .inl v :: stk) st :=
  fun hc H locs ls hI hS hl => lv_imul X.1 X.2.1 hdg (k hc H locs ls hI hS hl)
theorem z_iand (X : CallFix p m c cc nL s args wsL_law own) {v y : Int32} (hdg : decode cc pc = .ok (.iand, 1)) (k : zs p l e R s m args below meth c Q Z sp b x A nL cells slots res co (pc + 1) lv (.inl (v &&& y) :: stk) st) : zs p l e R s m args below meth c Q Z sp b x A nL cells slots res co (pc) lv (.inl y :: .inl v :: stk) st :=
  fun hc H locs ls hI hS hl => lv_iand X.1 X.2.1 hdg (k hc H locs ls hI hS hl)
theorem z_ior (X : CallFix p m c cc nL s args wsL_law own) {v y : Int32} (hdg : decode cc pc = .ok (.ior, 1)) (k : zs p l e R s m args below meth c Q Z sp b x A nL cells slots res co (pc + 1) lv (.inl (v ||| y) :: stk) st) : zs p l e R s m args below meth c Q Z sp b x A nL cells slots res co (pc) lv (.inl y :: .inl v :: stk) st :=
  fun hc H locs ls hI hS hl => lv_ior X.1 X.2.1 hdg (k hc H locs ls hI hS hl)
theorem z_ixor (X : CallFix p m c cc nL s args wsL_law own) {v y : Int32} (hdg : decode cc pc = .ok (.ixor, 1)) (k : zs p l e R s m args below meth c Q Z sp b x A nL cells slots res co (pc + 1) lv (.inl (v ^^^ y) :: stk) st) : zs p l e R s m args below meth c Q Z sp b x A nL cells slots res co (pc) lv (.inl y :: .inl v :: stk) st :=
  fun hc H locs ls hI hS hl => lv_ixor X.1 X.2.1 hdg (k hc H locs ls hI hS hl)
theorem z_ishl (X : CallFix p m c cc nL s args wsL_law own) {v y : Int32} (hdg : decode cc pc = .ok (.ishl, 1)) (k : zs p l e R s m args below meth c Q Z sp b x A nL cells slots res co (pc + 1) lv (.inl (v <<< (y &&& 31)) :: stk) st) : zs p l e R s m args below meth c Q Z sp b x A nL cells slots res co (pc) lv (.inl y :: .inl v :: stk) st :=
  fun hc H locs ls hI hS hl => lv_ishl X.1 X.2.1 hdg (k hc H locs ls hI hS hl)
theorem z_ishr (X : CallFix p m c cc nL s args wsL_law own) {v y : Int32} (hdg : decode cc pc = .ok (.ishr, 1)) (k : zs p l e R s m args below meth c Q Z sp b x A nL cells slots res co (pc + 1) lv (.inl (v >>> (y &&& 31)) :: stk) st) : zs p l e R s m args below meth c Q Z sp b x A nL cells slots res co (pc) lv (.inl y :: .inl v :: stk) st :=
  fun hc H locs ls hI hS hl => lv_ishr X.1 X.2.1 hdg (k hc H locs ls hI hS hl)
theorem z_iushr (X : CallFix p m c cc nL s args wsL_law own) {v y : Int32} (hdg : decode cc pc = .ok (.iushr, 1)) (k : zs p l e R s m args below meth c Q Z sp b x A nL cells slots res co (pc + 1) lv (.inl ((v.toUInt32 >>> (y.toUInt32 &&& Int32.toUInt32 31)).toInt32) :: stk) st) : zs p l e R s m args below meth c Q Z sp b x A nL cells slots res co (pc) lv (.inl y :: .inl v :: stk) st :=
  fun hc H locs ls hI hS hl => lv_iushr X.1 X.2.1 hdg rfl (k hc H locs ls hI hS hl)
theorem z_ineg (X : CallFix p m c cc nL s args wsL_law own) {v : Int32} (hdg : decode cc pc = .ok (.ineg, 1)) (k : zs p l e R s m args below meth c Q Z sp b x A nL cells slots res co (pc + 1) lv (.inl (-v) :: stk) st) : zs p l e R s m args below meth c Q Z sp b x A nL cells slots res co (pc) lv (.inl v :: stk) st :=
  fun hc H locs ls hI hS hl => lv_ineg X.1 X.2.1 hdg (k hc H locs ls hI hS hl)
theorem z_idiv (X : CallFix p m c cc nL s args wsL_law own) {v y : Int32} (hdg : decode cc pc = .ok (.idiv, 1)) (k : ¬ y = 0 → zs p l e R s m args below meth c Q Z sp b x A nL cells slots res co (pc + 1) lv (.inl (v / y) :: stk) st) : zs p l e R s m args below meth c Q Z sp b x A nL cells slots res (if y = 0 then none else co) (pc) lv (.inl y :: .inl v :: stk) st :=
  z_ite (fun _ => z_none) (fun h0 hc H locs ls hI hS hl => lv_idiv X.1 X.2.1 hdg h0 (k h0 hc H locs ls hI hS hl))
theorem z_irem (X : CallFix p m c cc nL s args wsL_law own) {v y : Int32} (hdg : decode cc pc = .ok (.irem, 1)) (k : ¬ y = 0 → zs p l e R s m args below meth c Q Z sp b x A nL cells slots res co (pc + 1) lv (.inl (v - v / y * y) :: stk) st) : zs p l e R s m args below meth c Q Z sp b x A nL cells slots res (if y = 0 then none else co) (pc) lv (.inl y :: .inl v :: stk) st :=
  z_ite (fun _ => z_none) (fun h0 hc H locs ls hI hS hl => lv_irem X.1 X.2.1 hdg h0 (k h0 hc H locs ls hI hS hl))
theorem z_ldiv (X : CallFix p m c cc nL s args wsL_law own) {v y : Int64} (hdg : decode cc pc = .ok (.ldiv, 1)) (k : ¬ y = 0 → zs p l e R s m args below meth c Q Z sp b x A nL cells slots res co (pc + 1) lv (.inr (.inl (v / y)) :: stk) st) : zs p l e R s m args below meth c Q Z sp b x A nL cells slots res (if y = 0 then none else co) (pc) lv (.inr (.inl y) :: .inr (.inl v) :: stk) st :=
  z_ite (fun _ => z_none) (fun h0 hc H locs ls hI hS hl => lv_ldiv X.1 X.2.1 hdg h0 (k h0 hc H locs ls hI hS hl))
theorem z_lrem (X : CallFix p m c cc nL s args wsL_law own) {v y : Int64} (hdg : decode cc pc = .ok (.lrem, 1)) (k : ¬ y = 0 → zs p l e R s m args below meth c Q Z sp b x A nL cells slots res co (pc + 1) lv (.inr (.inl (v - v / y * y)) :: stk) st) : zs p l e R s m args below meth c Q Z sp b x A nL cells slots res (if y = 0 then none else co) (pc) lv (.inr (.inl y) :: .inr (.inl v) :: stk) st :=
  z_ite (fun _ => z_none) (fun h0 hc H locs ls hI hS hl => lv_lrem X.1 X.2.1 hdg h0 (k h0 hc H locs ls hI hS hl))
theorem z_ladd (X : CallFix p m c cc nL s args wsL_law own) {v y : Int64} (hdg : decode cc pc = .ok (.ladd, 1)) (k : zs p l e R s m args below meth c Q Z sp b x A nL cells slots res co (pc + 1) lv (.inr (.inl (v + y)) :: stk) st) : zs p l e R s m args below meth c Q Z sp b x A nL cells slots res co (pc) lv (.inr (.inl y) :: .inr (.inl v) :: stk) st :=
  fun hc H locs ls hI hS hl => lv_ladd X.1 X.2.1 hdg (k hc H locs ls hI hS hl)
theorem z_lsub (X : CallFix p m c cc nL s args wsL_law own) {v y : Int64} (hdg : decode cc pc = .ok (.lsub, 1)) (k : zs p l e R s m args below meth c Q Z sp b x A nL cells slots res co (pc + 1) lv (.inr (.inl (v - y)) :: stk) st) : zs p l e R s m args below meth c Q Z sp b x A nL cells slots res co (pc) lv (.inr (.inl y) :: .inr (.inl v) :: stk) st :=
  fun hc H locs ls hI hS hl => lv_lsub X.1 X.2.1 hdg (k hc H locs ls hI hS hl)
theorem z_lmul (X : CallFix p m c cc nL s args wsL_law own) {v y : Int64} (hdg : decode cc pc = .ok (.lmul, 1)) (k : zs p l e R s m args below meth c Q Z sp b x A nL cells slots res co (pc + 1) lv (.inr (.inl (v * y)) :: stk) st) : zs p l e R s m args below meth c Q Z sp b x A nL cells slots res co (pc) lv (.inr (.inl y) :: .inr (.inl v) :: stk) st :=
  fun hc H locs ls hI hS hl => lv_lmul X.1 X.2.1 hdg (k hc H locs ls hI hS hl)
theorem z_lcmp (X : CallFix p m c cc nL s args wsL_law own) {v y : Int64} (hdg : decode cc pc = .ok (.lcmp, 1)) (k : zs p l e R s m args below meth c Q Z sp b x A nL cells slots res co (pc + 1) lv (.inl (lg_cmp v y) :: stk) st) : zs p l e R s m args below meth c Q Z sp b x A nL cells slots res co (pc) lv (.inr (.inl y) :: .inr (.inl v) :: stk) st :=
  fun hc H locs ls hI hS hl => W.lcmp X.1 X.2.1 hdg (k hc H locs ls hI hS hl)
theorem z_i2l (X : CallFix p m c cc nL s args wsL_law own) {v : Int32} (hdg : decode cc pc = .ok (.i2l, 1)) (k : zs p l e R s m args below meth c Q Z sp b x A nL cells slots res co (pc + 1) lv (.inr (.inl (v.toInt64)) :: stk) st) : zs p l e R s m args below meth c Q Z sp b x A nL cells slots res co (pc) lv (.inl v :: stk) st :=
  fun hc H locs ls hI hS hl => lv_i2l X.1 X.2.1 hdg rfl (k hc H locs ls hI hS hl)
theorem z_i2b (X : CallFix p m c cc nL s args wsL_law own) {v : Int32} (hdg : decode cc pc = .ok (.i2b, 1)) (k : zs p l e R s m args below meth c Q Z sp b x A nL cells slots res co (pc + 1) lv (.inl (v.toInt8.toInt32) :: stk) st) : zs p l e R s m args below meth c Q Z sp b x A nL cells slots res co (pc) lv (.inl v :: stk) st :=
  fun hc H locs ls hI hS hl => lv_i2b X.1 X.2.1 hdg rfl (k hc H locs ls hI hS hl)
theorem z_i2s (X : CallFix p m c cc nL s args wsL_law own) {v : Int32} (hdg : decode cc pc = .ok (.i2s, 1)) (k : zs p l e R s m args below meth c Q Z sp b x A nL cells slots res co (pc + 1) lv (.inl (v.toInt16.toInt32) :: stk) st) : zs p l e R s m args below meth c Q Z sp b x A nL cells slots res co (pc) lv (.inl v :: stk) st :=
  fun hc H locs ls hI hS hl => lv_i2s X.1 X.2.1 hdg rfl (k hc H locs ls hI hS hl)
theorem z_l2i (X : CallFix p m c cc nL s args wsL_law own) {v : Int64} (hdg : decode cc pc = .ok (.l2i, 1)) (k : zs p l e R s m args below meth c Q Z sp b x A nL cells slots res co (pc + 1) lv (.inl (v.toInt32) :: stk) st) : zs p l e R s m args below meth c Q Z sp b x A nL cells slots res co (pc) lv (.inr (.inl v) :: stk) st :=
  fun hc H locs ls hI hS hl => lv_l2i X.1 X.2.1 hdg rfl (k hc H locs ls hI hS hl)
theorem z_dup (X : CallFix p m c cc nL s args wsL_law own) {v : zv} (hdg : decode cc pc = .ok (.dup, 1)) (hv : zcat v = 1) (k : zs p l e R s m args below meth c Q Z sp b x A nL cells slots res co (pc + 1) lv (v :: v :: stk) st) : zs p l e R s m args below meth c Q Z sp b x A nL cells slots res co (pc) lv (v :: stk) st :=
  fun hc H locs ls hI hS hl => lv_dup X.1 X.2.1 hdg ((zval_cat b v).trans hv) (k hc H locs ls hI hS hl)
theorem z_dup2 (X : CallFix p m c cc nL s args wsL_law own) {v y : zv} (hdg : decode cc pc = .ok (.dup2, 1)) (hv : zcat v = 1) (hy : zcat y = 1) (k : zs p l e R s m args below meth c Q Z sp b x A nL cells slots res co (pc + 1) lv (v :: y :: v :: y :: stk) st) : zs p l e R s m args below meth c Q Z sp b x A nL cells slots res co (pc) lv (v :: y :: stk) st :=
  fun hc H locs ls hI hS hl => lv_dup2_11 X.1 X.2.1 hdg ((zval_cat b v).trans hv) ((zval_cat b y).trans hy) (k hc H locs ls hI hS hl)
theorem z_pop (X : CallFix p m c cc nL s args wsL_law own) {v : zv} (hdg : decode cc pc = .ok (.pop, 1)) (hv : zcat v = 1) (k : zs p l e R s m args below meth c Q Z sp b x A nL cells slots res co (pc + 1) lv (stk) st) : zs p l e R s m args below meth c Q Z sp b x A nL cells slots res co (pc) lv (v :: stk) st :=
  fun hc H locs ls hI hS hl => lv_pop X.1 X.2.1 hdg ((zval_cat b v).trans hv) (k hc H locs ls hI hS hl)
theorem z_icmp_eq (X : CallFix p m c cc nL s args wsL_law own) {v y : Int32} {off : Int} {tgt : Nat} (hdg : decode cc pc = .ok (.if_icmp .eq off, 3)) (ht : (pc : Int) + off = (tgt : Int)) (kt : v = y → zs p l e R s m args below meth c Q Z sp b x A nL cells slots res co1 (tgt) lv (stk) st) (kf : ¬ v = y → zs p l e R s m args below meth c Q Z sp b x A nL cells slots res co2 (pc + 3) lv (stk) st) : zs p l e R s m args below meth c Q Z sp b x A nL cells slots res (if v = y then co1 else co2) (pc) lv (.inl y :: .inl v :: stk) st :=
  z_ite (fun h hc H locs ls hI hS hl => lv_icmp_eq X.1 X.2.1 hdg ht (fun _ => kt h hc H locs ls hI hS hl) (fun h' => absurd h h')) (fun h hc H locs ls hI hS hl => lv_icmp_eq X.1 X.2.1 hdg ht (fun h' => absurd h' h) (fun _ => kf h hc H locs ls hI hS hl))
theorem z_icmp_ne (X : CallFix p m c cc nL s args wsL_law own) {v y : Int32} {off : Int} {tgt : Nat} (hdg : decode cc pc = .ok (.if_icmp .ne off, 3)) (ht : (pc : Int) + off = (tgt : Int)) (kt : ¬ v = y → zs p l e R s m args below meth c Q Z sp b x A nL cells slots res co1 (tgt) lv (stk) st) (kf : v = y → zs p l e R s m args below meth c Q Z sp b x A nL cells slots res co2 (pc + 3) lv (stk) st) : zs p l e R s m args below meth c Q Z sp b x A nL cells slots res (if v = y then co2 else co1) (pc) lv (.inl y :: .inl v :: stk) st :=
  z_ite (fun h hc H locs ls hI hS hl => lv_icmp_ne X.1 X.2.1 hdg ht (fun h' => absurd h h') (fun _ => kf h hc H locs ls hI hS hl)) (fun h hc H locs ls hI hS hl => lv_icmp_ne X.1 X.2.1 hdg ht (fun _ => kt h hc H locs ls hI hS hl) (fun h' => absurd h' h))
theorem z_icmp_lt (X : CallFix p m c cc nL s args wsL_law own) {v y : Int32} {off : Int} {tgt : Nat} (hdg : decode cc pc = .ok (.if_icmp .lt off, 3)) (ht : (pc : Int) + off = (tgt : Int)) (kt : v < y → zs p l e R s m args below meth c Q Z sp b x A nL cells slots res co1 (tgt) lv (stk) st) (kf : ¬ v < y → zs p l e R s m args below meth c Q Z sp b x A nL cells slots res co2 (pc + 3) lv (stk) st) : zs p l e R s m args below meth c Q Z sp b x A nL cells slots res (if v < y then co1 else co2) (pc) lv (.inl y :: .inl v :: stk) st :=
  z_ite (fun h hc H locs ls hI hS hl => lv_icmp_lt X.1 X.2.1 hdg ht (fun _ => kt h hc H locs ls hI hS hl) (fun h' => absurd h h')) (fun h hc H locs ls hI hS hl => lv_icmp_lt X.1 X.2.1 hdg ht (fun h' => absurd h' h) (fun _ => kf h hc H locs ls hI hS hl))
theorem z_icmp_ge (X : CallFix p m c cc nL s args wsL_law own) {v y : Int32} {off : Int} {tgt : Nat} (hdg : decode cc pc = .ok (.if_icmp .ge off, 3)) (ht : (pc : Int) + off = (tgt : Int)) (kt : y ≤ v → zs p l e R s m args below meth c Q Z sp b x A nL cells slots res co1 (tgt) lv (stk) st) (kf : ¬ y ≤ v → zs p l e R s m args below meth c Q Z sp b x A nL cells slots res co2 (pc + 3) lv (stk) st) : zs p l e R s m args below meth c Q Z sp b x A nL cells slots res (if y ≤ v then co1 else co2) (pc) lv (.inl y :: .inl v :: stk) st :=
  z_ite (fun h hc H locs ls hI hS hl => lv_icmp_ge X.1 X.2.1 hdg ht (fun _ => kt h hc H locs ls hI hS hl) (fun h' => absurd h h')) (fun h hc H locs ls hI hS hl => lv_icmp_ge X.1 X.2.1 hdg ht (fun h' => absurd h' h) (fun _ => kf h hc H locs ls hI hS hl))
theorem z_icmp_gt (X : CallFix p m c cc nL s args wsL_law own) {v y : Int32} {off : Int} {tgt : Nat} (hdg : decode cc pc = .ok (.if_icmp .gt off, 3)) (ht : (pc : Int) + off = (tgt : Int)) (kt : y < v → zs p l e R s m args below meth c Q Z sp b x A nL cells slots res co1 (tgt) lv (stk) st) (kf : ¬ y < v → zs p l e R s m args below meth c Q Z sp b x A nL cells slots res co2 (pc + 3) lv (stk) st) : zs p l e R s m args below meth c Q Z sp b x A nL cells slots res (if y < v then co1 else co2) (pc) lv (.inl y :: .inl v :: stk) st :=
  z_ite (fun h hc H locs ls hI hS hl => lv_icmp_gt X.1 X.2.1 hdg ht (fun _ => kt h hc H locs ls hI hS hl) (fun h' => absurd h h')) (fun h hc H locs ls hI hS hl => lv_icmp_gt X.1 X.2.1 hdg ht (fun h' => absurd h' h) (fun _ => kf h hc H locs ls hI hS hl))
theorem z_icmp_le (X : CallFix p m c cc nL s args wsL_law own) {v y : Int32} {off : Int} {tgt : Nat} (hdg : decode cc pc = .ok (.if_icmp .le off, 3)) (ht : (pc : Int) + off = (tgt : Int)) (kt : v ≤ y → zs p l e R s m args below meth c Q Z sp b x A nL cells slots res co1 (tgt) lv (stk) st) (kf : ¬ v ≤ y → zs p l e R s m args below meth c Q Z sp b x A nL cells slots res co2 (pc + 3) lv (stk) st) : zs p l e R s m args below meth c Q Z sp b x A nL cells slots res (if v ≤ y then co1 else co2) (pc) lv (.inl y :: .inl v :: stk) st :=
  z_ite (fun h hc H locs ls hI hS hl => lv_icmp_le X.1 X.2.1 hdg ht (fun _ => kt h hc H locs ls hI hS hl) (fun h' => absurd h h')) (fun h hc H locs ls hI hS hl => lv_icmp_le X.1 X.2.1 hdg ht (fun h' => absurd h' h) (fun _ => kf h hc H locs ls hI hS hl))
theorem z_if_eq (X : CallFix p m c cc nL s args wsL_law own) {v : Int32} {off : Int} {tgt : Nat} (hdg : decode cc pc = .ok (.ifCond .eq off, 3)) (ht : (pc : Int) + off = (tgt : Int)) (kt : v = 0 → zs p l e R s m args below meth c Q Z sp b x A nL cells slots res co1 (tgt) lv (stk) st) (kf : ¬ v = 0 → zs p l e R s m args below meth c Q Z sp b x A nL cells slots res co2 (pc + 3) lv (stk) st) : zs p l e R s m args below meth c Q Z sp b x A nL cells slots res (if v = 0 then co1 else co2) (pc) lv (.inl v :: stk) st :=
  z_ite (fun h hc H locs ls hI hS hl => lv_if_eq X.1 X.2.1 hdg ht (fun _ => kt h hc H locs ls hI hS hl) (fun h' => absurd h h')) (fun h hc H locs ls hI hS hl => lv_if_eq X.1 X.2.1 hdg ht (fun h' => absurd h' h) (fun _ => kf h hc H locs ls hI hS hl))
theorem z_if_ne (X : CallFix p m c cc nL s args wsL_law own) {v : Int32} {off : Int} {tgt : Nat} (hdg : decode cc pc = .ok (.ifCond .ne off, 3)) (ht : (pc : Int) + off = (tgt : Int)) (kt : ¬ v = 0 → zs p l e R s m args below meth c Q Z sp b x A nL cells slots res co1 (tgt) lv (stk) st) (kf : v = 0 → zs p l e R s m args below meth c Q Z sp b x A nL cells slots res co2 (pc + 3) lv (stk) st) : zs p l e R s m args below meth c Q Z sp b x A nL cells slots res (if v = 0 then co2 else co1) (pc) lv (.inl v :: stk) st :=
  z_ite (fun h hc H locs ls hI hS hl => lv_if_ne X.1 X.2.1 hdg ht (fun h' => absurd h h') (fun _ => kf h hc H locs ls hI hS hl)) (fun h hc H locs ls hI hS hl => lv_if_ne X.1 X.2.1 hdg ht (fun _ => kt h hc H locs ls hI hS hl) (fun h' => absurd h' h))
theorem z_if_lt (X : CallFix p m c cc nL s args wsL_law own) {v : Int32} {off : Int} {tgt : Nat} (hdg : decode cc pc = .ok (.ifCond .lt off, 3)) (ht : (pc : Int) + off = (tgt : Int)) (kt : v < 0 → zs p l e R s m args below meth c Q Z sp b x A nL cells slots res co1 (tgt) lv (stk) st) (kf : ¬ v < 0 → zs p l e R s m args below meth c Q Z sp b x A nL cells slots res co2 (pc + 3) lv (stk) st) : zs p l e R s m args below meth c Q Z sp b x A nL cells slots res (if v < 0 then co1 else co2) (pc) lv (.inl v :: stk) st :=
  z_ite (fun h hc H locs ls hI hS hl => lv_if_lt X.1 X.2.1 hdg ht (fun _ => kt h hc H locs ls hI hS hl) (fun h' => absurd h h')) (fun h hc H locs ls hI hS hl => lv_if_lt X.1 X.2.1 hdg ht (fun h' => absurd h' h) (fun _ => kf h hc H locs ls hI hS hl))
theorem z_if_ge (X : CallFix p m c cc nL s args wsL_law own) {v : Int32} {off : Int} {tgt : Nat} (hdg : decode cc pc = .ok (.ifCond .ge off, 3)) (ht : (pc : Int) + off = (tgt : Int)) (kt : 0 ≤ v → zs p l e R s m args below meth c Q Z sp b x A nL cells slots res co1 (tgt) lv (stk) st) (kf : ¬ 0 ≤ v → zs p l e R s m args below meth c Q Z sp b x A nL cells slots res co2 (pc + 3) lv (stk) st) : zs p l e R s m args below meth c Q Z sp b x A nL cells slots res (if 0 ≤ v then co1 else co2) (pc) lv (.inl v :: stk) st :=
  z_ite (fun h hc H locs ls hI hS hl => lv_if_ge X.1 X.2.1 hdg ht (fun _ => kt h hc H locs ls hI hS hl) (fun h' => absurd h h')) (fun h hc H locs ls hI hS hl => lv_if_ge X.1 X.2.1 hdg ht (fun h' => absurd h' h) (fun _ => kf h hc H locs ls hI hS hl))
theorem z_if_gt (X : CallFix p m c cc nL s args wsL_law own) {v : Int32} {off : Int} {tgt : Nat} (hdg : decode cc pc = .ok (.ifCond .gt off, 3)) (ht : (pc : Int) + off = (tgt : Int)) (kt : 0 < v → zs p l e R s m args below meth c Q Z sp b x A nL cells slots res co1 (tgt) lv (stk) st) (kf : ¬ 0 < v → zs p l e R s m args below meth c Q Z sp b x A nL cells slots res co2 (pc + 3) lv (stk) st) : zs p l e R s m args below meth c Q Z sp b x A nL cells slots res (if 0 < v then co1 else co2) (pc) lv (.inl v :: stk) st :=
  z_ite (fun h hc H locs ls hI hS hl => lv_if_gt X.1 X.2.1 hdg ht (fun _ => kt h hc H locs ls hI hS hl) (fun h' => absurd h h')) (fun h hc H locs ls hI hS hl => lv_if_gt X.1 X.2.1 hdg ht (fun h' => absurd h' h) (fun _ => kf h hc H locs ls hI hS hl))
theorem z_if_le (X : CallFix p m c cc nL s args wsL_law own) {v : Int32} {off : Int} {tgt : Nat} (hdg : decode cc pc = .ok (.ifCond .le off, 3)) (ht : (pc : Int) + off = (tgt : Int)) (kt : v ≤ 0 → zs p l e R s m args below meth c Q Z sp b x A nL cells slots res co1 (tgt) lv (stk) st) (kf : ¬ v ≤ 0 → zs p l e R s m args below meth c Q Z sp b x A nL cells slots res co2 (pc + 3) lv (stk) st) : zs p l e R s m args below meth c Q Z sp b x A nL cells slots res (if v ≤ 0 then co1 else co2) (pc) lv (.inl v :: stk) st :=
  z_ite (fun h hc H locs ls hI hS hl => lv_if_le X.1 X.2.1 hdg ht (fun _ => kt h hc H locs ls hI hS hl) (fun h' => absurd h h')) (fun h hc H locs ls hI hS hl => lv_if_le X.1 X.2.1 hdg ht (fun h' => absurd h' h) (fun _ => kf h hc H locs ls hI hS hl))
theorem z_goto (X : CallFix p m c cc nL s args wsL_law own) {off : Int} {tgt : Nat} (hdg : decode cc pc = .ok (.goto off, 3)) (ht : (pc : Int) + off = (tgt : Int)) (k : zs p l e R s m args below meth c Q Z sp b x A nL cells slots res co (tgt) lv (stk) st) : zs p l e R s m args below meth c Q Z sp b x A nL cells slots res co (pc) lv (stk) st :=
  fun hc H locs ls hI hS hl => lv_goto X.1 X.2.1 hdg ht (k hc H locs ls hI hS hl)
theorem z_ifnull (X : CallFix p m c cc nL s args wsL_law own) {r : Option Nat} {off : Int} {tgt : Nat} (hdg : decode cc pc = .ok (.ifnull off, 3)) (ht : (pc : Int) + off = (tgt : Int)) (kt : r = none → zs p l e R s m args below meth c Q Z sp b x A nL cells slots res co1 (tgt) lv (stk) st) (kf : ¬ r = none → zs p l e R s m args below meth c Q Z sp b x A nL cells slots res co2 (pc + 3) lv (stk) st) : zs p l e R s m args below meth c Q Z sp b x A nL cells slots res (if r = none then co1 else co2) (pc) lv (vP r :: stk) st :=
  by
  cases r with
  | none => exact z_ite (fun h hc H locs ls hI hS hl => lv_ifnullN X.1 X.2.1 hdg ht (kt h hc H locs ls hI hS hl)) (fun h => absurd rfl h)
  | some o => exact z_ite (fun h => by cases h) (fun h hc H locs ls hI hS hl => lv_ifnull X.1 X.2.1 hdg (kf h hc H locs ls hI hS hl))
theorem z_ifnonnull (X : CallFix p m c cc nL s args wsL_law own) {r : Option Nat} {off : Int} {tgt : Nat} (hdg : decode cc pc = .ok (.ifnonnull off, 3)) (ht : (pc : Int) + off = (tgt : Int)) (kt : ¬ r = none → zs p l e R s m args below meth c Q Z sp b x A nL cells slots res co1 (tgt) lv (stk) st) (kf : r = none → zs p l e R s m args below meth c Q Z sp b x A nL cells slots res co2 (pc + 3) lv (stk) st) : zs p l e R s m args below meth c Q Z sp b x A nL cells slots res (if r = none then co2 else co1) (pc) lv (vP r :: stk) st :=
  by
  cases r with
  | none => exact z_ite (fun h hc H locs ls hI hS hl => lv_ifnonnullN X.1 X.2.1 hdg (kf h hc H locs ls hI hS hl)) (fun h => absurd rfl h)
  | some o => exact z_ite (fun h => by cases h) (fun h hc H locs ls hI hS hl => lv_ifnonnull X.1 X.2.1 hdg ht (kt h hc H locs ls hI hS hl))
theorem z_acmp_ne (X : CallFix p m c cc nL s args wsL_law own) {r t : Option Nat} {off : Int} {tgt : Nat} (hdg : decode cc pc = .ok (.if_acmp .ne off, 3)) (ht : (pc : Int) + off = (tgt : Int)) (kt : ¬ r = t → zs p l e R s m args below meth c Q Z sp b x A nL cells slots res co1 (tgt) lv (stk) st) (kf : r = t → zs p l e R s m args below meth c Q Z sp b x A nL cells slots res co2 (pc + 3) lv (stk) st) : zs p l e R s m args below meth c Q Z sp b x A nL cells slots res (if r = t then co2 else co1) (pc) lv (vP t :: vP r :: stk) st :=
  by
  have inj : r.map (fun o => b + o) = t.map (fun o => b + o) ↔ r = t := by
    cases r <;> cases t <;> simp
  exact z_ite (fun h hc H locs ls hI hS hl => lv_acmp_ne X.1 X.2.1 hdg ht (fun h' => absurd (inj.mpr h) h') (fun _ => kf h hc H locs ls hI hS hl)) (fun h hc H locs ls hI hS hl => lv_acmp_ne X.1 X.2.1 hdg ht (fun _ => kt h hc H locs ls hI hS hl) (fun h' => absurd (inj.mp h') h))
theorem z_tabOut (X : CallFix p m c cc nL s args wsL_law own) {dflt lo hi : Int} {offs : Array Int} {len : Nat} {v : Int32} {tgt : Nat} (hdg : decode cc pc = .ok (.tableswitch dflt lo hi offs, len)) (h : v.toInt < lo ∨ hi < v.toInt) (ht : (pc : Int) + dflt = (tgt : Int)) (k : zs p l e R s m args below meth c Q Z sp b x A nL cells slots res co (tgt) lv (stk) st) : zs p l e R s m args below meth c Q Z sp b x A nL cells slots res co (pc) lv (.inl v :: stk) st :=
  fun hc H locs ls hI hS hl => lv_tableOut X.1 X.2.1 hdg h ht (k hc H locs ls hI hS hl)
theorem z_tabGap (X : CallFix p m c cc nL s args wsL_law own) {dflt lo hi : Int} {offs : Array Int} {len : Nat} {v : Int32} {tgt : Nat} (hdg : decode cc pc = .ok (.tableswitch dflt lo hi offs, len)) (h : v.toInt < lo ∨ hi < v.toInt ∨ offs[(v.toInt - lo).toNat]? = some dflt) (ht : (pc : Int) + dflt = (tgt : Int)) (k : zs p l e R s m args below meth c Q Z sp b x A nL cells slots res co (tgt) lv (stk) st) : zs p l e R s m args below meth c Q Z sp b x A nL cells slots res co (pc) lv (.inl v :: stk) st :=
  by
  by_cases h1 : v.toInt < lo
  · exact fun hc H locs ls hI hS hl => lv_tableOut X.1 X.2.1 hdg (Or.inl h1) ht (k hc H locs ls hI hS hl)
  · by_cases h2 : hi < v.toInt
    · exact fun hc H locs ls hI hS hl => lv_tableOut X.1 X.2.1 hdg (Or.inr h2) ht (k hc H locs ls hI hS hl)
    · have h3 := (h.resolve_left h1).resolve_left h2
      exact fun hc H locs ls hI hS hl => lv_tableIn X.1 X.2.1 hdg h1 h2 h3 ht (k hc H locs ls hI hS hl)
theorem z_tabIn (X : CallFix p m c cc nL s args wsL_law own) {dflt lo hi : Int} {offs : Array Int} {len : Nat} {v : Int32} {off : Int} {tgt : Nat} (hdg : decode cc pc = .ok (.tableswitch dflt lo hi offs, len)) (h1 : ¬ v.toInt < lo) (h2 : ¬ hi < v.toInt) (ho : offs[(v.toInt - lo).toNat]? = some off) (ht : (pc : Int) + off = (tgt : Int)) (k : zs p l e R s m args below meth c Q Z sp b x A nL cells slots res co (tgt) lv (stk) st) : zs p l e R s m args below meth c Q Z sp b x A nL cells slots res co (pc) lv (.inl v :: stk) st :=
  fun hc H locs ls hI hS hl => lv_tableIn X.1 X.2.1 hdg h1 h2 ho ht (k hc H locs ls hI hS hl)
theorem z_vf {ci k n : Nat} {st : zS} {o : Nat} (hk : k < n) : ((List.range n).map (fun j => zV b st ci o j))[k]? = some (zV b st ci o k) := by
  rw [List.getElem?_map, List.getElem?_range hk]
  rfl
theorem z_geti (X : CallFix p m c cc nL s args wsL_law own)(hK : zK Z b A s) {C ref : String} {T : u_T} {N ci k index : Nat} (hcl : vwCl[ci]? = some (C, T, N)) (hci : ci < 9) (hin : ∀ w ∈ u_ws C T N, w ∈ wsL_law) (hk : k < N) (hlink : Cond.fieldLink own index ref (T k).2.1 (T k).2.2.1 ∈ wsL_law) (href : (T k).1 = ref) (hsp : ∀ o, (sp o).1 = ci → (sp o).2 = N) (hg : zg ci k = 0) {f : Nat → Option σ} {r : Option Nat} (hdg : decode cc pc = .ok (.getfield index, 3)) (kk : ∀ o, r = some o → zs p l e R s m args below meth c Q Z sp b x A nL cells slots res (f o) (pc + 3) lv (.inl (st.2.1 o k) :: stk) st) : zs p l e R s m args below meth c Q Z sp b x A nL cells slots res ((zok sp st r ci).bind f) (pc) lv (vP r :: stk) st :=
  by
  intro hc H locs ls hI hS hl
  cases hr : zok sp st r ci with
  | none => rw [hr] at hc; cases hc
  | some o =>
    rw [hr] at hc
    obtain ⟨rfl, ho, hs⟩ := zok_spec hr
    have he := zW_at (Z := Z) (sp := sp) (b := b) ho
    rw [zE_obj hs hci, hsp o hs] at he
    refine va_get X.1 X.2.1 X.2.2.2.2 hin X.2.2.2.1 hK.1 hI.2.2 o he hcl k hk (X.2.2.2.2 _ hlink) (by rw [href]; exact fun _ h => h) (z_vf hk) hdg ?_
    have h2 := kk o rfl hc H locs ls hI hS hl
    have hv : zV b st ci o k = zval b (.inl (st.2.1 o k)) := by unfold zV; rw [hg]; rfl
    rw [hv]
    exact h2
theorem z_getl (X : CallFix p m c cc nL s args wsL_law own)(hK : zK Z b A s) {C ref : String} {T : u_T} {N ci k index : Nat} (hcl : vwCl[ci]? = some (C, T, N)) (hci : ci < 9) (hin : ∀ w ∈ u_ws C T N, w ∈ wsL_law) (hk : k < N) (hlink : Cond.fieldLink own index ref (T k).2.1 (T k).2.2.1 ∈ wsL_law) (href : (T k).1 = ref) (hsp : ∀ o, (sp o).1 = ci → (sp o).2 = N) (hg : zg ci k = 1) {f : Nat → Option σ} {r : Option Nat} (hdg : decode cc pc = .ok (.getfield index, 3)) (kk : ∀ o, r = some o → zs p l e R s m args below meth c Q Z sp b x A nL cells slots res (f o) (pc + 3) lv (.inr (.inl (st.2.2.1 o)) :: stk) st) : zs p l e R s m args below meth c Q Z sp b x A nL cells slots res ((zok sp st r ci).bind f) (pc) lv (vP r :: stk) st :=
  by
  intro hc H locs ls hI hS hl
  cases hr : zok sp st r ci with
  | none => rw [hr] at hc; cases hc
  | some o =>
    rw [hr] at hc
    obtain ⟨rfl, ho, hs⟩ := zok_spec hr
    have he := zW_at (Z := Z) (sp := sp) (b := b) ho
    rw [zE_obj hs hci, hsp o hs] at he
    refine va_get X.1 X.2.1 X.2.2.2.2 hin X.2.2.2.1 hK.1 hI.2.2 o he hcl k hk (X.2.2.2.2 _ hlink) (by rw [href]; exact fun _ h => h) (z_vf hk) hdg ?_
    have h2 := kk o rfl hc H locs ls hI hS hl
    have hv : zV b st ci o k = zval b (.inr (.inl (st.2.2.1 o))) := by unfold zV; rw [hg]; rfl
    rw [hv]
    exact h2
theorem z_getr (X : CallFix p m c cc nL s args wsL_law own)(hK : zK Z b A s) {C ref : String} {T : u_T} {N ci k index : Nat} (hcl : vwCl[ci]? = some (C, T, N)) (hci : ci < 9) (hin : ∀ w ∈ u_ws C T N, w ∈ wsL_law) (hk : k < N) (hlink : Cond.fieldLink own index ref (T k).2.1 (T k).2.2.1 ∈ wsL_law) (href : (T k).1 = ref) (hsp : ∀ o, (sp o).1 = ci → (sp o).2 = N) (hg : zg ci k = 2) {f : Nat → Option σ} {r : Option Nat} (hdg : decode cc pc = .ok (.getfield index, 3)) (kk : ∀ o, r = some o → zs p l e R s m args below meth c Q Z sp b x A nL cells slots res (f o) (pc + 3) lv (vP (st.2.2.2 o k) :: stk) st) : zs p l e R s m args below meth c Q Z sp b x A nL cells slots res ((zok sp st r ci).bind f) (pc) lv (vP r :: stk) st :=
  by
  intro hc H locs ls hI hS hl
  cases hr : zok sp st r ci with
  | none => rw [hr] at hc; cases hc
  | some o =>
    rw [hr] at hc
    obtain ⟨rfl, ho, hs⟩ := zok_spec hr
    have he := zW_at (Z := Z) (sp := sp) (b := b) ho
    rw [zE_obj hs hci, hsp o hs] at he
    refine va_get X.1 X.2.1 X.2.2.2.2 hin X.2.2.2.1 hK.1 hI.2.2 o he hcl k hk (X.2.2.2.2 _ hlink) (by rw [href]; exact fun _ h => h) (z_vf hk) hdg ?_
    have h2 := kk o rfl hc H locs ls hI hS hl
    have hv : zV b st ci o k = zval b (vP (st.2.2.2 o k)) := by unfold zV; rw [hg]; rfl
    rw [hv]
    exact h2
theorem zI_put {st' : zS} {o : Nat} {H H1 : Heap} (hI : zI Z sp b x A st H) (ho : o < st.1) (hn : st'.1 = st.1) (hE : ∀ o', o' ≠ o → zE Z sp b st' o' = zE Z sp b st o') (hs : H1.size = H.size) (hat : va_at Z.1 vwCl (b + o, zE Z sp b st' o) H1) (oq : ∀ q : Nat, q ≠ b + o → H1[q]? = H[q]?) : zI Z sp b x A st' H1 :=
  by
  refine ⟨by rw [hs, hn]; exact hI.1, by rw [hn]; exact hI.2.1, ?_⟩
  rw [← zW_set hn hE]
  exact hI.2.2.set (zW_D hI.2.1) (zW_at ho) hat oq
theorem z_put0 (X : CallFix p m c cc nL s args wsL_law own)(hK : zK Z b A s) {C ref : String} {T : u_T} {N ci k index : Nat} (hcl : vwCl[ci]? = some (C, T, N)) (hci : ci < 9) (hin : ∀ w ∈ u_ws C T N, w ∈ wsL_law) (ty0 : Nat → FieldType) (hty : ∀ k, k < N → parseFieldDescriptor (T k).2.2.1 = some (ty0 k)) (hnm : ∀ a, a < N → ∀ b, b < N → a ≠ b → (T a).2.1 ≠ (T b).2.1) (hk : k < N) (hlink : Cond.fieldLink own index ref (T k).2.1 (T k).2.2.1 ∈ wsL_law) (href : (T k).1 = ref) (hfin : (T k).2.2.2 = false) (hsp : ∀ o, (sp o).1 = ci → (sp o).2 = N) {ty : FieldType} (hd : parseFieldDescriptor (T k).2.2.1 = some ty)
    {o : Nat} {v : zv} {st' : zS} (ho : o < st.1) (hs : (sp o).1 = ci) (hn : narrow ty (zval b v) = zval b v) (hfit : fits ty (zval b v) = true) (hst : st'.1 = st.1) (hE : ∀ o', o' ≠ o → zE Z sp b st' o' = zE Z sp b st o') (hv : zV b st' ci o k = zval b v) (hv2 : ∀ j, j ≠ k → zV b st' ci o j = zV b st ci o j) (hdg : decode cc pc = .ok (.putfield index, 3)) (kk : zs p l e R s m args below meth c Q Z sp b x A nL cells slots res co (pc + 3) lv (stk) st') : zs p l e R s m args below meth c Q Z sp b x A nL cells slots res co (pc) lv (v :: vP (some o) :: stk) st := by
  intro hc H locs ls hI hS hl
  have he := zW_at (Z := Z) (sp := sp) (b := b) ho
  rw [zE_obj hs hci, hsp o hs] at he
  have hap := va_apart (own := own) X.2.2.2.2 hin ty0 hty hnm hK.1 hcl
  obtain ⟨r, h1, cell, q1, q2, q3, q4⟩ := hI.2.2 o _ he
  have hr : r = (C, T, N) := Option.some.inj (h1.symm.trans hcl)
  subst hr
  obtain ⟨hSl, hfc, kC, hkC, hkind⟩ := hK.1.1 ci _ hcl
  obtain ⟨cf, kf, fi, f, hi, hsl⟩ := hSl k hk
  have hlay := X.2.2.2.2 _ (hin _ (u_in_lay hk))
  unfold u_lay at hlay
  rw [if_neg (by rw [hfin]; decide)] at hlay
  have hstt := (u_facts hfc hkC (u_lays X.2.2.2.2 hin hk) hi).1
  have h6 := u_store hfc hkC hkind hlay hi hd hn hfit
  subst href
  refine W.putK X.1 X.2.1 (f := f) ⟨X.2.2.2.1, X.2.2.2.2 _ hlink, ⟨_, _, _, hi⟩, hstt⟩ (by rw [q2]; exact h6) q1 q3 (by rw [hsl]; exact k2_hasslot (q4 k hk)) rfl rfl hdg fun H' e1 e2 e3 => ?_
  rw [hsl] at e1 ⊢
  refine kk hc H' _ ls (zI_put hI ho hst hE e2 ?_ e3) (hS.put e2 e3 (hI.2.1 o ho)) hl
  rw [zE_obj hs hci, hsp o hs]
  refine ⟨_, hcl, t_OB.to (V := updV (vp_V ((List.range N).map (fun j => zV b st ci o j))) k (zval b v)) ⟨_, e1, q2, q3, t_set q4 hap hk _⟩ (fun j hj => ?_)⟩
  rw [vp_updV_set (by simpa using hk)]
  congr 1
  rw [← hv]
  exact zset_ext N k _ _ (fun _ => trivial) hv2
theorem z_puti (X : CallFix p m c cc nL s args wsL_law own)(hK : zK Z b A s) {C ref : String} {T : u_T} {N ci k index : Nat} (hcl : vwCl[ci]? = some (C, T, N)) (hci : ci < 9) (hin : ∀ w ∈ u_ws C T N, w ∈ wsL_law) (ty0 : Nat → FieldType) (hty : ∀ k, k < N → parseFieldDescriptor (T k).2.2.1 = some (ty0 k)) (hnm : ∀ a, a < N → ∀ b, b < N → a ≠ b → (T a).2.1 ≠ (T b).2.1) (hk : k < N) (hlink : Cond.fieldLink own index ref (T k).2.1 (T k).2.2.1 ∈ wsL_law) (href : (T k).1 = ref) (hfin : (T k).2.2.2 = false) (hsp : ∀ o, (sp o).1 = ci → (sp o).2 = N) (hg : zg ci k = 0) (hd : parseFieldDescriptor (T k).2.2.1 = some .int) {v : Int32} {f : Nat → zS → Option σ} {r : Option Nat} (hdg : decode cc pc = .ok (.putfield index, 3)) (kk : ∀ o st1, r = some o → zs p l e R s m args below meth c Q Z sp b x A nL cells slots res (f o st1) (pc + 3) lv (stk) st1) : zs p l e R s m args below meth c Q Z sp b x A nL cells slots res ((zok sp st r ci).bind fun o => zlet (zp st o k v) (f o)) (pc) lv (.inl v :: vP r :: stk) st :=
  by
  cases hr : zok sp st r ci with
  | none => exact z_none
  | some o =>
    obtain ⟨rfl, ho, hs⟩ := zok_spec hr
    exact z_put0 (co := f o (zp st o k v)) (st' := zp st o k v) X hK hcl hci hin ty0 hty hnm hk hlink href hfin hsp hd ho hs rfl rfl rfl zp_E (by unfold zV; rw [hg]; simp [zp, zval]) (fun j hj => by unfold zV; simp [zp, hj]) hdg (kk o _ rfl)
theorem z_putz (X : CallFix p m c cc nL s args wsL_law own)(hK : zK Z b A s) {C ref : String} {T : u_T} {N ci k index : Nat} (hcl : vwCl[ci]? = some (C, T, N)) (hci : ci < 9) (hin : ∀ w ∈ u_ws C T N, w ∈ wsL_law) (ty0 : Nat → FieldType) (hty : ∀ k, k < N → parseFieldDescriptor (T k).2.2.1 = some (ty0 k)) (hnm : ∀ a, a < N → ∀ b, b < N → a ≠ b → (T a).2.1 ≠ (T b).2.1) (hk : k < N) (hlink : Cond.fieldLink own index ref (T k).2.1 (T k).2.2.1 ∈ wsL_law) (href : (T k).1 = ref) (hfin : (T k).2.2.2 = false) (hsp : ∀ o, (sp o).1 = ci → (sp o).2 = N) (hg : zg ci k = 0) (hd : parseFieldDescriptor (T k).2.2.1 = some .boolean) {v : Int32} (hnv : narrow .boolean (.int v) = .int v) (hfv : fits .boolean (.int v) = true) {f : Nat → zS → Option σ} {r : Option Nat} (hdg : decode cc pc = .ok (.putfield index, 3)) (kk : ∀ o st1, r = some o → zs p l e R s m args below meth c Q Z sp b x A nL cells slots res (f o st1) (pc + 3) lv (stk) st1) : zs p l e R s m args below meth c Q Z sp b x A nL cells slots res ((zok sp st r ci).bind fun o => zlet (zp st o k v) (f o)) (pc) lv (.inl v :: vP r :: stk) st :=
  by
  cases hr : zok sp st r ci with
  | none => exact z_none
  | some o =>
    obtain ⟨rfl, ho, hs⟩ := zok_spec hr
    exact z_put0 (co := f o (zp st o k v)) (st' := zp st o k v) X hK hcl hci hin ty0 hty hnm hk hlink href hfin hsp hd ho hs hnv hfv rfl zp_E (by unfold zV; rw [hg]; simp [zp, zval]) (fun j hj => by unfold zV; simp [zp, hj]) hdg (kk o _ rfl)
theorem z_putl (X : CallFix p m c cc nL s args wsL_law own)(hK : zK Z b A s) {C ref : String} {T : u_T} {N ci k index : Nat} (hcl : vwCl[ci]? = some (C, T, N)) (hci : ci < 9) (hin : ∀ w ∈ u_ws C T N, w ∈ wsL_law) (ty0 : Nat → FieldType) (hty : ∀ k, k < N → parseFieldDescriptor (T k).2.2.1 = some (ty0 k)) (hnm : ∀ a, a < N → ∀ b, b < N → a ≠ b → (T a).2.1 ≠ (T b).2.1) (hk : k < N) (hlink : Cond.fieldLink own index ref (T k).2.1 (T k).2.2.1 ∈ wsL_law) (href : (T k).1 = ref) (hfin : (T k).2.2.2 = false) (hsp : ∀ o, (sp o).1 = ci → (sp o).2 = N) (hg : ∀ j, zg ci j = 1 ↔ j = k) (hd : parseFieldDescriptor (T k).2.2.1 = some .long) {v : Int64} {f : Nat → zS → Option σ} {r : Option Nat} (hdg : decode cc pc = .ok (.putfield index, 3)) (kk : ∀ o st1, r = some o → zs p l e R s m args below meth c Q Z sp b x A nL cells slots res (f o st1) (pc + 3) lv (stk) st1) : zs p l e R s m args below meth c Q Z sp b x A nL cells slots res ((zok sp st r ci).bind fun o => zlet (zpl st o v) (f o)) (pc) lv (.inr (.inl v) :: vP r :: stk) st :=
  by
  cases hr : zok sp st r ci with
  | none => exact z_none
  | some o =>
    obtain ⟨rfl, ho, hs⟩ := zok_spec hr
    refine z_put0 (co := f o (zpl st o v)) (st' := zpl st o v) X hK hcl hci hin ty0 hty hnm hk hlink href hfin hsp hd ho hs rfl rfl rfl zpl_E (by unfold zV; rw [(hg k).mpr rfl]; simp [zpl, zval]) (fun j hj => ?_) hdg (kk o _ rfl)
    have hj2 : ¬ zg ci j = 1 := fun h => hj ((hg j).mp h)
    unfold zV
    split
    · rfl
    · contradiction
    · rfl
theorem z_putr (X : CallFix p m c cc nL s args wsL_law own)(hK : zK Z b A s) {C ref : String} {T : u_T} {N ci k index : Nat} (hcl : vwCl[ci]? = some (C, T, N)) (hci : ci < 9) (hin : ∀ w ∈ u_ws C T N, w ∈ wsL_law) (ty0 : Nat → FieldType) (hty : ∀ k, k < N → parseFieldDescriptor (T k).2.2.1 = some (ty0 k)) (hnm : ∀ a, a < N → ∀ b, b < N → a ≠ b → (T a).2.1 ≠ (T b).2.1) (hk : k < N) (hlink : Cond.fieldLink own index ref (T k).2.1 (T k).2.2.1 ∈ wsL_law) (href : (T k).1 = ref) (hfin : (T k).2.2.2 = false) (hsp : ∀ o, (sp o).1 = ci → (sp o).2 = N) (hg : zg ci k = 2) {ty : FieldType} (hd : parseFieldDescriptor (T k).2.2.1 = some ty) (hty2 : ∀ r : Option Nat, narrow ty (va_rf r) = va_rf r ∧ fits ty (va_rf r) = true) {v : Option Nat} {f : Nat → zS → Option σ} {r : Option Nat} (hdg : decode cc pc = .ok (.putfield index, 3)) (kk : ∀ o st1, r = some o → zs p l e R s m args below meth c Q Z sp b x A nL cells slots res (f o st1) (pc + 3) lv (stk) st1) : zs p l e R s m args below meth c Q Z sp b x A nL cells slots res ((zok sp st r ci).bind fun o => zlet (zpr st o k v) (f o)) (pc) lv (vP v :: vP r :: stk) st :=
  by
  cases hr : zok sp st r ci with
  | none => exact z_none
  | some o =>
    obtain ⟨rfl, ho, hs⟩ := zok_spec hr
    exact z_put0 (co := f o (zpr st o k v)) (st' := zpr st o k v) X hK hcl hci hin ty0 hty hnm hk hlink href hfin hsp hd ho hs (hty2 _).1 (hty2 _).2 rfl zpr_E (by unfold zV; rw [hg]; simp [zpr, zval]) (fun j hj => by unfold zV; simp [zpr, hj]) hdg (kk o _ rfl)
theorem z_alen (X : CallFix p m c cc nL s args wsL_law own)(hK : zK Z b A s) {r : Option Nat} {f : Nat → Option σ} (hdg : decode cc pc = .ok (.arraylength, 1)) (hsp : ∀ o, (sp o).1 < 14) (kk : ∀ o, r = some o → zs p l e R s m args below meth c Q Z sp b x A nL cells slots res (f o) (pc + 1) lv (.inl (Int32.ofNat (sp o).2) :: stk) st) : zs p l e R s m args below meth c Q Z sp b x A nL cells slots res ((zla sp st r).bind f) (pc) lv (vP r :: stk) st :=
  by
  cases hr : zla sp st r with
  | none => exact z_none
  | some o =>
    obtain ⟨rfl, ho, hs⟩ := zla_spec hr
    intro hc H locs ls hI hS hl
    have he := zW_at (Z := Z) (sp := sp) (b := b) ho
    have h2 := kk o rfl hc H locs ls hI hS hl
    rcases (show (sp o).1 = 9 ∨ (sp o).1 = 10 ∨ (sp o).1 = 11 ∨ (sp o).1 = 12 ∨ (sp o).1 = 13 by have := hsp o; omega) with h | h | h | h | h
    · rw [zE_arr h (by omega)] at he
      exact va_alen X.1 X.2.1 hK.1 hI.2.2 o 0 he (ty := .int) rfl rfl hdg h2
    · rw [zE_arr h (by omega)] at he
      exact va_alen X.1 X.2.1 hK.1 hI.2.2 o 1 he (ty := .boolean) rfl rfl hdg h2
    · rw [zE_ref h (by omega)] at he
      exact va_alen X.1 X.2.1 hK.1 hI.2.2 o 2 he (ty := .object RX0) rfl rfl hdg h2
    · rw [zE_ref h (by omega)] at he
      exact va_alen X.1 X.2.1 hK.1 hI.2.2 o 3 he (ty := .object RX3) rfl rfl hdg h2
    · rw [zE_ref h (by omega)] at he
      exact va_alen X.1 X.2.1 hK.1 hI.2.2 o 4 he (ty := .object RX4) rfl rfl hdg h2
theorem z_iald (X : CallFix p m c cc nL s args wsL_law own)(hK : zK Z b A s) {r : Option Nat} {i : Int32} {f : Nat → Nat → Option σ} (hdg : decode cc pc = .ok (.iaload, 1)) (kk : ∀ o j, r = some o → i.toNatClampNeg = j → zs p l e R s m args below meth c Q Z sp b x A nL cells slots res (f o j) (pc + 1) lv (.inl (st.2.1 o j) :: stk) st) : zs p l e R s m args below meth c Q Z sp b x A nL cells slots res ((zok sp st r 9).bind fun o => (zix sp o i).bind (f o)) (pc) lv (.inl i :: vP r :: stk) st :=
  by
  cases hr : zok sp st r 9 with
  | none => exact z_none
  | some o =>
    obtain ⟨rfl, ho, hs⟩ := zok_spec hr
    show zs p l e R s m args below meth c Q Z sp b x A nL cells slots res ((zix sp o i).bind (f o)) _ _ _ _
    cases hi : zix sp o i with
    | none => exact z_none
    | some j =>
      obtain ⟨hvi, rfl⟩ := zix_spec hi
      intro hc H locs ls hI hS hl
      have he := zW_at (Z := Z) (sp := sp) (b := b) ho
      rw [zE_arr hs (by omega)] at he
      exact va_iald X.1 X.2.1 hK.1 hI.2.2 o 0 he rfl hvi hdg (kk o _ rfl rfl hc H locs ls hI hS hl)
theorem z_zald (X : CallFix p m c cc nL s args wsL_law own)(hK : zK Z b A s) {r : Option Nat} {i : Int32} {f : Nat → Nat → Option σ} (hdg : decode cc pc = .ok (.baload, 1)) (kk : ∀ o j, r = some o → i.toNatClampNeg = j → zs p l e R s m args below meth c Q Z sp b x A nL cells slots res (f o j) (pc + 1) lv (.inl (st.2.1 o j) :: stk) st) : zs p l e R s m args below meth c Q Z sp b x A nL cells slots res ((zok sp st r 10).bind fun o => (zix sp o i).bind (f o)) (pc) lv (.inl i :: vP r :: stk) st :=
  by
  cases hr : zok sp st r 10 with
  | none => exact z_none
  | some o =>
    obtain ⟨rfl, ho, hs⟩ := zok_spec hr
    show zs p l e R s m args below meth c Q Z sp b x A nL cells slots res ((zix sp o i).bind (f o)) _ _ _ _
    cases hi : zix sp o i with
    | none => exact z_none
    | some j =>
      obtain ⟨hvi, rfl⟩ := zix_spec hi
      intro hc H locs ls hI hS hl
      have he := zW_at (Z := Z) (sp := sp) (b := b) ho
      rw [zE_arr hs (by omega)] at he
      exact va_zald X.1 X.2.1 hK.1 hI.2.2 o 1 he rfl hvi hdg (kk o _ rfl rfl hc H locs ls hI hS hl)
theorem z_aald11 (X : CallFix p m c cc nL s args wsL_law own)(hK : zK Z b A s) {r : Option Nat} {i : Int32} {f : Nat → Nat → Option σ} (hdg : decode cc pc = .ok (.aaload, 1)) (kk : ∀ o j, r = some o → i.toNatClampNeg = j → zs p l e R s m args below meth c Q Z sp b x A nL cells slots res (f o j) (pc + 1) lv (vP (st.2.2.2 o j) :: stk) st) : zs p l e R s m args below meth c Q Z sp b x A nL cells slots res ((zok sp st r 11).bind fun o => (zix sp o i).bind (f o)) (pc) lv (.inl i :: vP r :: stk) st :=
  by
  cases hr : zok sp st r 11 with
  | none => exact z_none
  | some o =>
    obtain ⟨rfl, ho, hs⟩ := zok_spec hr
    show zs p l e R s m args below meth c Q Z sp b x A nL cells slots res ((zix sp o i).bind (f o)) _ _ _ _
    cases hi : zix sp o i with
    | none => exact z_none
    | some j =>
      obtain ⟨hvi, rfl⟩ := zix_spec hi
      intro hc H locs ls hI hS hl
      have he := zW_at (Z := Z) (sp := sp) (b := b) ho
      rw [zE_ref hs (by omega)] at he
      exact va_aldq X.1 X.2.1 hK.1 hI.2.2 o 2 he (C := RX0) rfl hvi hdg (kk o _ rfl rfl hc H locs ls hI hS hl)
theorem z_aald12 (X : CallFix p m c cc nL s args wsL_law own)(hK : zK Z b A s) {r : Option Nat} {i : Int32} {f : Nat → Nat → Option σ} (hdg : decode cc pc = .ok (.aaload, 1)) (kk : ∀ o j, r = some o → i.toNatClampNeg = j → zs p l e R s m args below meth c Q Z sp b x A nL cells slots res (f o j) (pc + 1) lv (vP (st.2.2.2 o j) :: stk) st) : zs p l e R s m args below meth c Q Z sp b x A nL cells slots res ((zok sp st r 12).bind fun o => (zix sp o i).bind (f o)) (pc) lv (.inl i :: vP r :: stk) st :=
  by
  cases hr : zok sp st r 12 with
  | none => exact z_none
  | some o =>
    obtain ⟨rfl, ho, hs⟩ := zok_spec hr
    show zs p l e R s m args below meth c Q Z sp b x A nL cells slots res ((zix sp o i).bind (f o)) _ _ _ _
    cases hi : zix sp o i with
    | none => exact z_none
    | some j =>
      obtain ⟨hvi, rfl⟩ := zix_spec hi
      intro hc H locs ls hI hS hl
      have he := zW_at (Z := Z) (sp := sp) (b := b) ho
      rw [zE_ref hs (by omega)] at he
      exact va_aldq X.1 X.2.1 hK.1 hI.2.2 o 3 he (C := RX3) rfl hvi hdg (kk o _ rfl rfl hc H locs ls hI hS hl)
theorem z_aald13 (X : CallFix p m c cc nL s args wsL_law own)(hK : zK Z b A s) {r : Option Nat} {i : Int32} {f : Nat → Nat → Option σ} (hdg : decode cc pc = .ok (.aaload, 1)) (kk : ∀ o j, r = some o → i.toNatClampNeg = j → zs p l e R s m args below meth c Q Z sp b x A nL cells slots res (f o j) (pc + 1) lv (vP (st.2.2.2 o j) :: stk) st) : zs p l e R s m args below meth c Q Z sp b x A nL cells slots res ((zok sp st r 13).bind fun o => (zix sp o i).bind (f o)) (pc) lv (.inl i :: vP r :: stk) st :=
  by
  cases hr : zok sp st r 13 with
  | none => exact z_none
  | some o =>
    obtain ⟨rfl, ho, hs⟩ := zok_spec hr
    show zs p l e R s m args below meth c Q Z sp b x A nL cells slots res ((zix sp o i).bind (f o)) _ _ _ _
    cases hi : zix sp o i with
    | none => exact z_none
    | some j =>
      obtain ⟨hvi, rfl⟩ := zix_spec hi
      intro hc H locs ls hI hS hl
      have he := zW_at (Z := Z) (sp := sp) (b := b) ho
      rw [zE_ref hs (by omega)] at he
      exact va_aldq X.1 X.2.1 hK.1 hI.2.2 o 4 he (C := RX4) rfl hvi hdg (kk o _ rfl rfl hc H locs ls hI hS hl)
theorem z_iast (X : CallFix p m c cc nL s args wsL_law own)(hK : zK Z b A s) {r : Option Nat} {i v : Int32} {f : Nat → Nat → zS → Option σ} (hdg : decode cc pc = .ok (.iastore, 1)) (kk : ∀ o j st1, r = some o → i.toNatClampNeg = j → zs p l e R s m args below meth c Q Z sp b x A nL cells slots res (f o j st1) (pc + 1) lv (stk) st1) : zs p l e R s m args below meth c Q Z sp b x A nL cells slots res ((zok sp st r 9).bind fun o => (zix sp o i).bind fun j => zlet (zp st o j v) (f o j)) (pc) lv (.inl v :: .inl i :: vP r :: stk) st :=
  by
  cases hr : zok sp st r 9 with
  | none => exact z_none
  | some o =>
    obtain ⟨rfl, ho, hs⟩ := zok_spec hr
    show zs p l e R s m args below meth c Q Z sp b x A nL cells slots res ((zix sp o i).bind fun j => zlet (zp st o j v) (f o j)) _ _ _ _
    cases hi : zix sp o i with
    | none => exact z_none
    | some j =>
      obtain ⟨hvi, rfl⟩ := zix_spec hi
      intro hc H locs ls hI hS hl
      have he := zW_at (Z := Z) (sp := sp) (b := b) ho
      rw [zE_arr hs (by omega)] at he
      refine W.iast X.1 X.2.1 (hI.2.2 o _ he) ((hK.1.2 0 _ rfl).1 (sp o).2 (fun j => .int (st.2.1 o j))) (fun q => by cases q) (by show ¬ (i < 0 ∨ (arrV _ _ _).slots.size ≤ _); rw [arrV_size]; exact hvi) rfl rfl hdg fun H1 e z oq => ?_
      refine kk o _ _ rfl rfl hc H1 _ ls (zI_put hI ho rfl zp_E z ?_ oq) (hS.put z oq (hI.2.1 o ho)) hl
      rw [zE_arr hs (by omega)]
      show H1[b + o]? = some (vp_cell _ _)
      rw [e]
      rw [vp_cell_i, vp_cell_i, arrV_store]
      congr 2
      funext q
      by_cases hq : q = i.toNatClampNeg
      · subst hq
        simp [updV, zp, vp_nar]
        try rfl
      · simp [updV, zp, hq]
theorem z_zast (X : CallFix p m c cc nL s args wsL_law own)(hK : zK Z b A s) {r : Option Nat} {i v : Int32} {f : Nat → Nat → zS → Option σ} (hdg : decode cc pc = .ok (.bastore, 1)) (kk : ∀ o j st1, r = some o → i.toNatClampNeg = j → zs p l e R s m args below meth c Q Z sp b x A nL cells slots res (f o j st1) (pc + 1) lv (stk) st1) : zs p l e R s m args below meth c Q Z sp b x A nL cells slots res ((zok sp st r 10).bind fun o => (zix sp o i).bind fun j => zlet (zp st o j (vp_nar .boolean v)) (f o j)) (pc) lv (.inl v :: .inl i :: vP r :: stk) st :=
  by
  cases hr : zok sp st r 10 with
  | none => exact z_none
  | some o =>
    obtain ⟨rfl, ho, hs⟩ := zok_spec hr
    show zs p l e R s m args below meth c Q Z sp b x A nL cells slots res ((zix sp o i).bind fun j => zlet (zp st o j (vp_nar .boolean v)) (f o j)) _ _ _ _
    cases hi : zix sp o i with
    | none => exact z_none
    | some j =>
      obtain ⟨hvi, rfl⟩ := zix_spec hi
      intro hc H locs ls hI hS hl
      have he := zW_at (Z := Z) (sp := sp) (b := b) ho
      rw [zE_arr hs (by omega)] at he
      refine W.zast X.1 X.2.1 (hI.2.2 o _ he) ((hK.1.2 1 _ rfl).1 (sp o).2 (fun j => .int (st.2.1 o j))) (fun q => by cases q) (by show ¬ (i < 0 ∨ (arrV _ _ _).slots.size ≤ _); rw [arrV_size]; exact hvi) rfl rfl hdg fun H1 e z oq => ?_
      refine kk o _ _ rfl rfl hc H1 _ ls (zI_put hI ho rfl zp_E z ?_ oq) (hS.put z oq (hI.2.1 o ho)) hl
      rw [zE_arr hs (by omega)]
      show H1[b + o]? = some (vp_cell _ _)
      rw [e]
      rw [vp_cell_i, vp_cell_i, arrV_store]
      congr 2
      funext q
      by_cases hq : q = i.toNatClampNeg
      · subst hq
        simp [updV, zp, vp_nar]
        try rfl
      · simp [updV, zp, hq]
theorem zBlind {as : List Value} {A : Nat → Prop} : FrameBlind (zPc as Z sp b x A st) := fun a U g mk q => ⟨q.1, q.2.1, va_K.moved (u := U) (U := U.calling g mk a) (Vm.Alike.refl U.vm) q.2.2.1, zB_same q.2.2.2 rfl rfl⟩
theorem zI_in {H : Heap} (hI : zI Z sp b x A st H) : zI Z sp b x (zA b st.1) st H := ⟨hI.1, fun o ho => ⟨Nat.le_add_right _ _, Nat.add_lt_add_left ho _⟩, hI.2.2⟩
theorem zI_out {H H1 : Heap} {st1 : zS} (hI : zI Z sp b x A st H) (h1 : zI Z sp b x (zA b st.1) st1 H1) : zI Z sp b x A st1 H1 := ⟨h1.1, fun o ho => hI.2.1 o (by have h2 : b + o < b + st.1 := (h1.2.1 o ho).2; omega), h1.2.2⟩
theorem zA_sub {H : Heap} (hI : zI Z sp b x A st H) : ∀ q, zA b st.1 q → A q := fun q h => by
  have h2 := hI.2.1 (q - b) (by have := h.1; have := h.2; omega)
  rwa [show b + (q - b) = q by have := h.1; omega] at h2
theorem zm_app (a1 a2 : List zv) : zm b (a1 ++ a2) = zm b a1 ++ zm b a2 := List.map_append
theorem z_callV (X : CallFix p m c cc nL s args wsL_law own)(hK : zK Z b A s) {y : MethodName} {bytes : ByteArray} {maxL : Nat} {ret : Option FieldType} {rm : Room} {index n : Nat} {ρ : Type} {rho : ρ → List zv} {As : List zv} {body : ρ × zS → Option σ} {stk0 : List zv} {C : String} {T : u_T} {N ci : Nat} {f : Nat → Option (ρ × zS)} {r : Option Nat} (hcl : vwCl[ci]? = some (C, T, N)) (hci : ci < 9) (hM : ∀ o, zC l Z sp b x y (.code y bytes maxL ret) rm rho (vP (some o) :: As) st (f o))
    (hlk : ∀ w ∈ ([.methodLink own index y, .instanceMethod y, .selects C y y, .initialized C, .code y bytes maxL ret] : List Cond), w ∈ wsL_law) (hrm : rm.cells = 0 ∧ rm.slots = 0) (hd : y.cls = C ∧ y.cls ≠ "java/lang/invoke/MethodHandle" ∧ y.cls ≠ "java/lang/invoke/VarHandle" ∧ (parseMethodDescriptor y.desc).map (fun d => d.parameters.length) = some n) (hR : rm.frames + 1 ≤ R.frames ∧ 8 + (maxL + 11) + rm.locals ≤ R.locals) (hcs : cells ≤ R.cells ∧ slots ≤ R.slots)
    (hn : As.length = n) (hst : stk0 = As.reverse ++ vP r :: stk) (hcat : zcats stk ≤ 8) (hdg : decode cc pc = .ok (.invokevirtual index, 3))
    (kk : ∀ o q, r = some o → zs p l e R s m args below meth c Q Z sp b x A nL cells slots res (body q) (pc + 3) lv (rho q.1 ++ stk) q.2) : zs p l e R s m args below meth c Q Z sp b x A nL cells slots res ((zok sp st r ci).bind fun o => (f o).bind body) (pc) lv (stk0) st := by
  cases hr : zok sp st r ci with
  | none => exact z_none
  | some o =>
  obtain ⟨rfl, ho, hs⟩ := zok_spec hr
  show zs p l e R s m args below meth c Q Z sp b x A nL cells slots res ((f o).bind body) _ _ _ _
  cases hf : f o with
  | none => exact z_none
  | some q =>
  subst hst
  intro hc H locs ls hI hS hl
  have he := zW_at (Z := Z) (sp := sp) (b := b) ho
  rw [zE_obj hs hci] at he
  have hG : GoodIn wsL_law (wsV own index C y (.code y bytes maxL ret :: wsL_law)) := by
    intro w hw
    have hw2 : w ∈ wsL_law := by
      rcases List.mem_append.mp hw with h | h
      · exact hlk w (by simp only [List.mem_cons] at h ⊢; rcases h with h | h | h | h | h <;> simp_all)
      · rcases List.mem_cons.mp h with h | h
        · exact hlk w (by simp [h])
        · exact h
    exact ⟨hw2, zGood w hw2⟩
  have hrun := va_runV (l := l) (e := e) (below := below) (meth := meth) (H := H) (locs := locs) (cells := cells) (slots := slots) (mc := 0) (ms := 0) (As := zm b As) (rest := zm b stk) (b := b + o) (C := C) (g := F0 m pc ls (zm b (As.reverse ++ vP (some o) :: stk))) X (hM o q hf) (cwV n X.2.2.2.2 hG rfl hrm.1 hrm.2 hd hR) ⟨zBlind, va_recv hK.1 hI.2.2 hcl he, fun U hU hW => ⟨rfl, by rw [hU]; exact zI_in hI, va_K.moved hW.alike hK.1, zB_warm hK.2.1 hW (fun a h1 h2 => by rw [hU]; exact hS.2.1 a h1 (fun z => absurd (hK.2.2 a z) (Nat.not_le.mpr h2)))⟩⟩ rfl (by unfold zm; rw [List.length_map]; exact hn) hl.1 (by rw [zm_app]; unfold zm; rw [List.map_reverse]; rfl) (by rw [zcats_eq]; show 2 * 0 + _ ≤ 8; omega) hdg hcs
  intro T hT X'
  obtain ⟨v, st₀, t, T', L, h0, X', hL, e1, e2, ⟨⟨⟨v', hv, hv2⟩, hI'⟩, hz, hk⟩, st'⟩ := hrun T hT X'
  cases hv
  rw [h0] at hz hk
  rw [hv2, ← zm_app] at st'
  obtain ⟨t2, a1, b1⟩ := kk o q rfl hc T'.heap (locs ++ L) ls (by rw [e1]; exact zI_out hI hI')
    ⟨Nat.le_trans hS.1 (by rw [e1]; exact hz), fun q h1 h2 => by rw [e1, hk q (Nat.lt_of_lt_of_le h1 hS.1) (fun z => h2 (zA_sub hI q z))]; exact hS.2.1 q h1 h2, fun q hq => by
      rcases List.mem_append.mp hq with h | h
      · exact hS.2.2 q h
      · exact zA_sub hI _ (hL q h)⟩ hl T' rfl X'
  exact ⟨t2, st' t2 a1, b1⟩
theorem z_callS (X : CallFix p m c cc nL s args wsL_law own)(hK : zK Z b A s) {y : MethodName} {bytes : ByteArray} {maxL : Nat} {ret : Option FieldType} {rm : Room} {index n : Nat} {ρ : Type} {rho : ρ → List zv} {As : List zv} {body : ρ × zS → Option σ} {stk0 : List zv} {f : Option (ρ × zS)} (hM : zC l Z sp b x y (.code y bytes maxL ret) rm rho As st f)
    (hlk : ∀ w ∈ ([.methodLink own index y, .static y, .initialized y.cls, .code y bytes maxL ret] : List Cond), w ∈ wsL_law) (hrm : rm.cells = 0 ∧ rm.slots = 0) (hd : y.cls ≠ "java/lang/invoke/MethodHandle" ∧ y.cls ≠ "java/lang/invoke/VarHandle" ∧ (parseMethodDescriptor y.desc).map (fun d => d.parameters.length) = some n) (hR : rm.frames + 1 ≤ R.frames ∧ 8 + (maxL + 11) + rm.locals ≤ R.locals) (hcs : cells ≤ R.cells ∧ slots ≤ R.slots)
    (hn : As.length = n) (hst : stk0 = As.reverse ++ stk) (hcat : zcats stk ≤ 8) (hdg : decode cc pc = .ok (.invokestatic index, 3))
    (kk : ∀ q, zs p l e R s m args below meth c Q Z sp b x A nL cells slots res (body q) (pc + 3) lv (rho q.1 ++ stk) q.2) : zs p l e R s m args below meth c Q Z sp b x A nL cells slots res (f.bind body) (pc) lv (stk0) st := by
  cases hf : f with
  | none => exact z_none
  | some q =>
  subst hst
  intro hc H locs ls hI hS hl
  have hG : GoodIn wsL_law (.code y bytes maxL ret :: wsL_law) := by
    intro w hw
    have hw2 : w ∈ wsL_law := by
      rcases List.mem_cons.mp hw with h | h
      · exact hlk w (by simp [h])
      · exact h
    exact ⟨hw2, zGood w hw2⟩
  have hrun := va_runS (l := l) (e := e) (below := below) (meth := meth) (H := H) (locs := locs) (cells := cells) (slots := slots) (mc := 0) (ms := 0) (As := zm b As) (rest := zm b stk) (g := F0 m pc ls (zm b (As.reverse ++ stk))) X (hM q hf) ⟨callB_of n X.2.2.2.2 hG rfl hrm.1 hrm.2 (X.2.2.2.2 _ (hlk _ (by simp))) (X.2.2.2.2 _ (hlk _ (by simp))) hd hR, X.2.2.2.2 _ (hlk _ (by simp))⟩ ⟨zBlind, fun U hU hW => ⟨rfl, by rw [hU]; exact zI_in hI, va_K.moved hW.alike hK.1, zB_warm hK.2.1 hW (fun a h1 h2 => by rw [hU]; exact hS.2.1 a h1 (fun z => absurd (hK.2.2 a z) (Nat.not_le.mpr h2)))⟩⟩ rfl (by unfold zm; rw [List.length_map]; exact hn) hl.1 (by rw [zm_app]; unfold zm; rw [List.map_reverse]) (by rw [zcats_eq]; show 2 * 0 + _ ≤ 8; omega) hdg hcs
  intro T hT X'
  obtain ⟨v, st₀, t, T', L, h0, X', hL, e1, e2, ⟨⟨⟨v', hv, hv2⟩, hI'⟩, hz, hk⟩, st'⟩ := hrun T hT X'
  cases hv
  rw [h0] at hz hk
  rw [hv2, ← zm_app] at st'
  obtain ⟨t2, a1, b1⟩ := kk q hc T'.heap (locs ++ L) ls (by rw [e1]; exact zI_out hI hI')
    ⟨Nat.le_trans hS.1 (by rw [e1]; exact hz), fun q h1 h2 => by rw [e1, hk q (Nat.lt_of_lt_of_le h1 hS.1) (fun z => h2 (zA_sub hI q z))]; exact hS.2.1 q h1 h2, fun q hq => by
      rcases List.mem_append.mp hq with h | h
      · exact hS.2.2 q h
      · exact zA_sub hI _ (hL q h)⟩ hl T' rfl X'
  exact ⟨t2, st' t2 a1, b1⟩
theorem z_max (X : CallFix p m c cc nL s args wsL_law own) {index : Nat} {v y : Int32} (hlk : ∀ w ∈ ([.methodLink own index Lib.Math.max.name, .static Lib.Math.max.name, .initialized "java/lang/Math", .code Lib.Math.max.name Lib.Math.max.code 2 (some .int)] : List Cond), w ∈ wsL_law) (hR : 1 ≤ R.frames ∧ 21 ≤ R.locals) (hcs : cells ≤ R.cells ∧ slots ≤ R.slots) (hcat : zcats stk ≤ 8) (hdg : decode cc pc = .ok (.invokestatic index, 3)) (k : zs p l e R s m args below meth c Q Z sp b x A nL cells slots res co (pc + 3) lv (.inl (if v < y then y else v) :: stk) st) : zs p l e R s m args below meth c Q Z sp b x A nL cells slots res co (pc) lv (.inl y :: .inl v :: stk) st :=
  fun hc H locs ls hI hS hl => va_mmax X.1 X.2.1 (X.2.2.1.trans hl.1.symm) X.2.2.2.1 (X.2.2.2.2 _ (hlk _ (by simp))) (X.2.2.2.2 _ (hlk _ (by simp))) (X.2.2.2.2 _ (hlk _ (by simp))) (X.2.2.2.2 _ (hlk _ (by simp))) hR.1 (by show ((zm b stk).map fun v => v.category).sum + 13 ≤ _; rw [zcats_eq]; omega) hcs.1 hcs.2 hdg (k hc H locs ls hI hS hl)
theorem z_min (X : CallFix p m c cc nL s args wsL_law own) {index : Nat} {v y : Int32} (hlk : ∀ w ∈ ([.methodLink own index Lib.Math.min.name, .static Lib.Math.min.name, .initialized "java/lang/Math", .code Lib.Math.min.name Lib.Math.min.code 2 (some .int)] : List Cond), w ∈ wsL_law) (hR : 1 ≤ R.frames ∧ 21 ≤ R.locals) (hcs : cells ≤ R.cells ∧ slots ≤ R.slots) (hcat : zcats stk ≤ 8) (hdg : decode cc pc = .ok (.invokestatic index, 3)) (k : zs p l e R s m args below meth c Q Z sp b x A nL cells slots res co (pc + 3) lv (.inl (if y < v then y else v) :: stk) st) : zs p l e R s m args below meth c Q Z sp b x A nL cells slots res co (pc) lv (.inl y :: .inl v :: stk) st :=
  fun hc H locs ls hI hS hl => va_mmin X.1 X.2.1 (X.2.2.1.trans hl.1.symm) X.2.2.2.1 (X.2.2.2.2 _ (hlk _ (by simp))) (X.2.2.2.2 _ (hlk _ (by simp))) (X.2.2.2.2 _ (hlk _ (by simp))) (X.2.2.2.2 _ (hlk _ (by simp))) hR.1 (by show ((zm b stk).map fun v => v.category).sum + 13 ≤ _; rw [zcats_eq]; omega) hcs.1 hcs.2 hdg (k hc H locs ls hI hS hl)
end ZROWS
section ZEND
variable {p : Program} {l : Launch} {e : Env} {R : Room} {s : State} {m : MethodId} {args : Array Value} {below : List Frame} {meth : Method} {c : Code} {Z : zZ} {sp : Nat → Nat × Nat} {b : Nat} {x : Option Nat} {A : Nat → Prop} {nL cells slots : Nat} {pc : Nat} {lv : List (Nat × zv)} {st : zS} {cc : ByteArray} {own : String}
theorem z_iret (X : CallFix p m c cc nL s args wsL_law own) (hlocks : meth.locks = false) (hr : meth.sig.returnType = some .int) {v : Int32} {res : Int32 × zS} (hdg : decode cc pc = .ok (.ireturn, 1)) : zs p l e R s m args below meth c (MQ below (zQ rI Z sp b x A res) args s cells slots A) Z sp b x A nL cells slots res (some (v, st)) pc lv [.inl v] st := by
  intro hc H locs ls hI hS hl
  cases hc
  exact W.iret X.1 X.2.1 hr (fun t ht hW => ⟨⟨⟨_, rfl, rfl⟩, by rw [ht]; exact hI⟩, hS.F ht⟩) hS.2.2 hdg hlocks
theorem z_zret (X : CallFix p m c cc nL s args wsL_law own) (hlocks : meth.locks = false) (hr : meth.sig.returnType = some .boolean) {v : Int32} {res : Int32 × zS} (hdg : decode cc pc = .ok (.ireturn, 1)) : zs p l e R s m args below meth c (MQ below (zQ rI Z sp b x A res) args s cells slots A) Z sp b x A nL cells slots res (if v = 0 ∨ v = 1 then some (v, st) else none) pc lv [.inl v] st := by
  intro hc H locs ls hI hS hl
  split at hc
  · rename_i hv
    cases hc
    exact W.zret X.1 X.2.1 hr (by rcases hv with h | h <;> (subst h; rfl)) (fun t ht hW => ⟨⟨⟨_, rfl, rfl⟩, by rw [ht]; exact hI⟩, hS.F ht⟩) hS.2.2 hdg hlocks
  · cases hc
theorem z_zretc (X : CallFix p m c cc nL s args wsL_law own) (hlocks : meth.locks = false) (hr : meth.sig.returnType = some .boolean) {v : Int32} {res : Int32 × zS} (hv : v = 0 ∨ v = 1) (hdg : decode cc pc = .ok (.ireturn, 1)) : zs p l e R s m args below meth c (MQ below (zQ rI Z sp b x A res) args s cells slots A) Z sp b x A nL cells slots res (some (v, st)) pc lv [.inl v] st := by
  have h := z_zret (l := l) (e := e) (R := R) (below := below) (Z := Z) (sp := sp) (b := b) (x := x) (A := A) (cells := cells) (slots := slots) (lv := lv) (st := st) (res := res) (v := v) X hlocks hr hdg
  rw [if_pos hv] at h
  exact h
theorem z_lret (X : CallFix p m c cc nL s args wsL_law own) (hlocks : meth.locks = false) (hr : meth.sig.returnType = some .long) {v : Int64} {res : Int64 × zS} (hdg : decode cc pc = .ok (.lreturn, 1)) : zs p l e R s m args below meth c (MQ below (zQ rL Z sp b x A res) args s cells slots A) Z sp b x A nL cells slots res (some (v, st)) pc lv [.inr (.inl v)] st := by
  intro hc H locs ls hI hS hl
  cases hc
  exact W.lret X.1 X.2.1 hr (fun t ht hW => ⟨⟨⟨_, rfl, rfl⟩, by rw [ht]; exact hI⟩, hS.F ht⟩) hS.2.2 hdg hlocks
theorem z_aret (X : CallFix p m c cc nL s args wsL_law own) (hlocks : meth.locks = false) {rt : String} (hr : meth.sig.returnType = some (.object rt)) {v : Option Nat} {res : Option Nat × zS} (hdg : decode cc pc = .ok (.areturn, 1)) : zs p l e R s m args below meth c (MQ below (zQ rP Z sp b x A res) args s cells slots A) Z sp b x A nL cells slots res (some (v, st)) pc lv [vP v] st := by
  intro hc H locs ls hI hS hl
  cases hc
  exact W.aret X.1 X.2.1 hr (Or.inl ⟨_, rfl⟩) (by cases v with | none => exact Or.inl rfl | some o => exact Or.inr ⟨_, rfl⟩) (fun t ht hW => ⟨⟨⟨_, rfl, rfl⟩, by rw [ht]; exact hI⟩, hS.F ht⟩) hS.2.2 hdg hlocks
theorem z_vret (X : CallFix p m c cc nL s args wsL_law own) (hlocks : meth.locks = false) (hr : meth.sig.returnType = none) {res : Unit × zS} (hdg : decode cc pc = .ok (.return_, 1)) : zs p l e R s m args below meth c (MQ below (zQ rV Z sp b x A res) args s cells slots A) Z sp b x A nL cells slots res (some ((), st)) pc lv [] st := by
  intro hc H locs ls hI hS hl
  cases hc
  exact W.vret X.1 X.2.1 hr (fun t ht hW => ⟨⟨⟨_, rfl, rfl⟩, by rw [ht]; exact hI⟩, hS.F ht⟩) hS.2.2 hdg hlocks
theorem z_start {ρ : Type} {rho : ρ → List zv} {y : MethodName} {maxL : Nat} {ret : Option FieldType} {rm : Room} {as : List zv} {co : Option (ρ × zS)} (hown : y.cls = own) (hy : plainFor y = true) (hlen : zcats as ≤ maxL) (hlv : zargs 0 as = lv)
    (h : ∀ (p : Program) (e : Env) (s : State) (m : MethodId) (args : Array Value) (below : List Frame) (meth : Method) (c : Code) (res : ρ × zS) (Q : State → Prop) (A : Nat → Prop), CallFix p m c cc maxL s args wsL_law own → zK Z b A s → meth.sig.returnType = ret → meth.locks = false → Q = MQ below (zQ rho Z sp b x A res) args s 0 0 A → zs p l e rm s m args below meth c Q Z sp b x A maxL 0 0 res co 0 lv [] st) : zC l Z sp b x y (.code y cc maxL ret) rm rho as st co := by
  intro res hres
  refine va_MetF (cc := cc) (maxL := maxL) (ret := ret) hy rfl ?_
  intro p e s m args below meth c s₁ B hml hv
  obtain ⟨rfl, hI, hK, hB⟩ := hv
  have hts := atoms_spec (ws := .code y cc maxL ret :: wsL_law) B.pre
  have hown : s.vm.findClass own = some m.cls := by rw [← hown]; exact findClass_of_methodNamed B.named
  have hl := lv_entry (zm b as) (n := maxL) (by rw [zsl_len]; exact hlen)
  rw [lg_entry_eq]
  generalize (lg_sl (zm b as) ++ List.replicate (maxL - (lg_sl (zm b as)).length) Slot.unset).toArray = ls at hl ⊢
  rw [zargs_eq, hlv] at hl
  exact h p e s m _ below meth c res _ _ ⟨B.exec, B.bytes, hml, hown, fun w hw => hts w (List.mem_cons_of_mem _ hw)⟩ ⟨hK, hB, fun q h => h.1⟩ B.returns B.notSynchronized rfl hres s.heap [] ls hI va_S.rf hl
end ZEND
