theorem zB_mono {E : Nat × ((Nat → Nat) × (Nat → Nat))} {b b' : Nat} {U : State} (h : zB E b U) (hb : b ≤ b') : zB E b' U := by
  obtain ⟨h1, h2, h3, h4, h5, h6, h7⟩ := h
  have hn : ∀ q : Nat, b' ≤ q → b ≤ q := fun q hq => Nat.le_trans hb hq
  exact ⟨h1.narrow hn, h2.narrow hn, h3.narrow hn, h4.narrow hn, h5, h6.narrow hn, h7⟩
def z0 : zS := (0, fun _ _ => 0, fun _ => 0, fun _ _ => none)
theorem zI_0 {Z : zZ} {sp : Nat → Nat × Nat} {H : Heap} : zI Z sp H.size (some 0) (fun q => H.size ≤ q) z0 H := ⟨rfl, fun o h => absurd h (Nat.not_lt_zero o), fun k q h => by simp [zW, z0] at h⟩
theorem zI_close {Z : zZ} {sp : Nat → Nat × Nat} {b n : Nat} {st : zS} {H : Heap} (h : zI Z sp b (some 0) (fun q => b ≤ q) st H) (hn : st.1 = n) : zI Z sp b none (zA b n) st H := ⟨trivial, fun o ho => ⟨Nat.le_add_right _ _, Nat.add_lt_add_left (by rw [← hn]; exact ho) _⟩, h.2.2⟩
/-- a world that the callee doesn't touch stays -/
theorem zI_stay {Z : zZ} {sp : Nat → Nat × Nat} {b n : Nat} {st : zS} {H H1 : Heap} {F : Nat → Prop} (h : zI Z sp b none (zA b n) st H) (hF : ∀ q, zA b n q → ¬ F q) (hq : ∀ q : Nat, q < H.size → ¬ F q → H1[q]? = H[q]?) : zI Z sp b none (zA b n) st H1 := by
  refine ⟨trivial, h.2.1, h.2.2.kept (fun k q hk => ?_)⟩
  refine hq q.1 ((h.2.2 k q hk).lt) (hF q.1 ?_)
  exact (zW_D h.2.1).2 k q hk
section ZLAW
variable {p : Program} {l : Launch} {e : Env} {R : Room} {s : State} {m : MethodId} {args : Array Value} {below : List Frame} {meth : Method} {c : Code} {Q : State → Prop} {Z : zZ} {sp : Nat → Nat × Nat} {b n1 : Nat} {A : Nat → Prop} {nL cells slots : Nat} {pc : Nat} {rest stk0 : List Value} {st : zS} {cc : ByteArray} {own : String} {H : Heap} {locs : List Loc} {ls : Array Slot}
theorem lw_call (X : CallFix p m c cc nL s args wsL_law own) (hKv : va_K Z.1 vwCl (zT Z.2.1) s) (hB : zB Z.2.2 b s) {y : MethodName} {bytes : ByteArray} {maxL : Nat} {ret : Option FieldType} {rm : Room} {index n : Nat} {ρ : Type} {rho : ρ → List zv} {As : List zv} {C : String} {T : u_T} {N ci : Nat} {f : Option (ρ × zS)} {q : ρ × zS} (hM : zC l Z sp b none y (.code y bytes maxL ret) rm rho (vP (some 0) :: As) st f) (hf : f = some q) (hn1 : st.1 = n1) (h0 : 0 < n1) (hs : (sp 0).1 = ci) (hcl : vwCl[ci]? = some (C, T, N)) (hci : ci < 9)
    (hlk : ∀ w ∈ ([.methodLink own index y, .instanceMethod y, .selects C y y, .initialized C, .code y bytes maxL ret] : List Cond), w ∈ wsL_law) (hrm : rm.cells = 0 ∧ rm.slots = 0) (hd : y.cls = C ∧ y.cls ≠ "java/lang/invoke/MethodHandle" ∧ y.cls ≠ "java/lang/invoke/VarHandle" ∧ (parseMethodDescriptor y.desc).map (fun d => d.parameters.length) = some n) (hR : rm.frames + 1 ≤ R.frames ∧ 8 + (maxL + 11) + rm.locals ≤ R.locals) (hcs : cells ≤ R.cells ∧ slots ≤ R.slots)
    (hI : zI Z sp b none (zA b n1) st H) (hA : ∀ q, zA b n1 q → A q) (hAb : ∀ q, A q → s.heap.size ≤ q) (hS : va_S A s.heap H locs) (hls : ls.size = nL) (hn : As.length = n) (hst : stk0 = (zm b As).reverse ++ .ref b :: rest) (hcat : (rest.map fun v => v.category).sum ≤ 8) (hdg : decode cc pc = .ok (.invokevirtual index, 3))
    (kk : ∀ (H1 : Heap) (locs1 : List Loc), (∀ q : Nat, q < H.size → ¬ zA b n1 q → H1[q]? = H[q]?) → zI Z sp b none (zA b n1) q.2 H1 → va_S A s.heap H1 locs1 → W p l e R s m args below meth c H1 locs1 cells slots Q (F0 m (pc + 3) ls (zm b (rho q.1) ++ rest))) : W p l e R s m args below meth c H locs cells slots Q (F0 m pc ls stk0) := by
  subst hst
  subst hn1
  have he := zW_at (Z := Z) (sp := sp) (b := b) h0
  rw [zE_obj hs hci] at he
  have hG : GoodIn wsL_law (wsV own index C y (.code y bytes maxL ret :: wsL_law)) := by
    intro w hw
    have hw2 : w ∈ wsL_law := by
      rcases List.mem_append.mp hw with h | h
      · exact hlk w (by simp only [List.mem_cons] at h ⊢; rcases h with h | h | h | h | h <;> simp_all)
      · rcases List.mem_cons.mp h with h | h
        · exact hlk w (by simp [h])
        · exact h
    exact ⟨hw2, zGood w hw2⟩
  have hrun := va_runV (l := l) (e := e) (below := below) (meth := meth) (H := H) (locs := locs) (cells := cells) (slots := slots) (mc := 0) (ms := 0) (As := zm b As) (rest := rest) (b := b) (C := C) (g := F0 m pc ls ((zm b As).reverse ++ .ref b :: rest)) X (hM q hf) (cwV n X.2.2.2.2 hG rfl hrm.1 hrm.2 hd hR) ⟨zBlind, va_recv hKv hI.2.2 hcl he, fun U hU hW => ⟨rfl, by rw [hU]; exact hI, va_K.moved hW.alike hKv, zB_warm hB hW (fun a h1 h2 => by rw [hU]; exact hS.2.1 a h1 (fun z => absurd (hAb a z) (Nat.not_le.mpr h1)))⟩⟩ rfl (by unfold zm; rw [List.length_map]; exact hn) hls rfl (by show 2 * 0 + _ ≤ 8; omega) hdg hcs
  intro T hT X'
  obtain ⟨v, st₀, t, T', L, h0', X', hL, e1, e2, ⟨⟨⟨v', hv, hv2⟩, hI'⟩, hz, hk⟩, st'⟩ := hrun T hT X'
  cases hv
  rw [h0'] at hz hk
  rw [hv2] at st'
  obtain ⟨t2, a1, b1⟩ := kk T'.heap (locs ++ L) (fun q h1 h2 => by rw [e1]; exact hk q h1 h2) (by rw [e1]; exact hI')
    ⟨Nat.le_trans hS.1 (by rw [e1]; exact hz), fun q h1 h2 => by rw [e1, hk q (Nat.lt_of_lt_of_le h1 hS.1) (fun z => h2 (hA q z))]; exact hS.2.1 q h1 h2, fun q hq => by
      rcases List.mem_append.mp hq with h | h
      · exact hS.2.2 q h
      · exact hA _ (hL q h)⟩ T' rfl X'
  exact ⟨t2, st' t2 a1, b1⟩
theorem lw_new (X : CallFix p m c cc nL s args wsL_law own) (hKv : va_K Z.1 vwCl (zT Z.2.1) s) {C : String} {T : u_T} {N ci index : Nat} (hcl : vwCl[ci]? = some (C, T, N)) (hci : ci < 9) (hin : ∀ w ∈ u_ws C T N, w ∈ wsL_law) (ty : Nat → FieldType) (hty : ∀ k, k < N → parseFieldDescriptor (T k).2.2.1 = some (ty k)) (hdv : ∀ j, j < N → defaultValue (ty j) = zdv (zg ci j)) (hlk : ∀ w ∈ ([.classLink own index C, .instantiable C N, .initialized C] : List Cond), w ∈ wsL_law) (hsp : sp 0 = (ci, N)) (hcells : cells + 1 ≤ R.cells) (hslots : slots + N ≤ R.slots) (hS : va_S A s.heap H locs) (hdg : decode cc pc = .ok (.new index, 3))
    (kk : ∀ (H1 : Heap), H1.size = H.size + 1 → (∀ q : Nat, q < H.size → H1[q]? = H[q]?) → zI Z sp H.size (some 0) (fun q => H.size ≤ q) (znew z0) H1 → va_S A s.heap H1 locs → W p l e R s m args below meth c H1 locs (cells + 1) (slots + N) Q (F0 m (pc + 3) ls (.ref H.size :: rest))) : W p l e R s m args below meth c H locs cells slots Q (F0 m pc ls rest) := by
  have hKn := hKv.1 ci _ hcl
  refine W.newcK X.1 X.2.1 X.2.2.2.1 (X.2.2.2.2 _ (hlk _ (by simp))) (X.2.2.2.2 _ (hlk _ (by simp))) (X.2.2.2.2 _ (hlk _ (by simp))) rfl hdg hcells hslots hKn.2.1 rfl fun H1 kC hkC e1 z1 o1 => ?_
  exact kk H1 z1 o1 (zI_new zI_0 z1 o1 (by
    rw [zE_obj (by rw [show z0.1 = 0 from rfl, hsp]) hci, show z0.1 = 0 from rfl, hsp]
    exact ⟨_, hcl, (u_born ty X.2.2.2.2 hin hKn hkC e1 hty).to (fun j hj => by
      rw [hdv j hj]
      unfold vp_V
      rw [List.getD_eq_getElem?_getD, z_vf hj]
      exact (zdv_eq H.size z0 ci j).symm)⟩)) ⟨Nat.le_trans hS.1 (by omega), fun x h1 h2 => (o1 x (Nat.lt_of_lt_of_le h1 hS.1)).trans (hS.2.1 x h1 h2), hS.2.2⟩
theorem lw_init (X : CallFix p m c cc nL s args wsL_law own) (hKv : va_K Z.1 vwCl (zT Z.2.1) s) (hB : zB Z.2.2 b s) (hAO : ∀ C ∈ zAOs, va_AO C s) {y : MethodName} {bytes : ByteArray} {maxL : Nat} {rm : Room} {index mc ms : Nat} {f : Option (Unit × zS)} {q : Unit × zS} (hM : zN l Z sp b y (.code y bytes maxL none) rm mc ms [vP (some 0)] st f) (hf : f = some q)
    (hlk : ∀ w ∈ ([.methodLink own index y, .instanceMethod y, .initialized y.cls, .code y bytes maxL none] : List Cond), w ∈ wsL_law) (hy1 : y.name = "<init>") (hrm : rm.cells = mc ∧ rm.slots = ms) (hd : y.cls ≠ "java/lang/invoke/MethodHandle" ∧ y.cls ≠ "java/lang/invoke/VarHandle" ∧ (parseMethodDescriptor y.desc).map (fun d => d.parameters.length) = some 0) (hR : rm.frames + 1 ≤ R.frames ∧ 8 + (maxL + 11) + rm.locals ≤ R.locals) (hcs : cells + mc ≤ R.cells ∧ slots + ms ≤ R.slots)
    (hI : zI Z sp b (some 0) (fun q => b ≤ q) st H) (hA : ∀ q, b ≤ q → A q) (hAb : ∀ q, A q → s.heap.size ≤ q) (hS : va_S A s.heap H locs) (hls : ls.size = nL) (hcat : (rest.map fun v => v.category).sum ≤ 8) (hdg : decode cc pc = .ok (.invokespecial index, 3))
    (kk : ∀ (H1 : Heap) (locs1 : List Loc), (∀ q : Nat, q < H.size → ¬ b ≤ q → H1[q]? = H[q]?) → zI Z sp b (some 0) (fun q => b ≤ q) q.2 H1 → va_S A s.heap H1 locs1 → W p l e R s m args below meth c H1 locs1 (cells + mc) (slots + ms) Q (F0 m (pc + 3) ls rest)) : W p l e R s m args below meth c H locs cells slots Q (F0 m pc ls (.ref b :: rest)) := by
  have hG : GoodIn wsL_law (.code y bytes maxL none :: wsL_law) := by
    intro w hw
    have hw2 : w ∈ wsL_law := by
      rcases List.mem_cons.mp hw with h | h
      · exact hlk w (by simp [h])
      · exact h
    exact ⟨hw2, zGood w hw2⟩
  have hrun := va_runI (l := l) (e := e) (below := below) (meth := meth) (H := H) (locs := locs) (cells := cells) (slots := slots) (mc := mc) (ms := ms) (As := []) (rest := rest) (b := b) (g := F0 m pc ls (.ref b :: rest)) X (hM q hf) (cwI 0 X.2.2.2.2 hG rfl hrm.1 hrm.2 (X.2.2.2.2 _ (hlk _ (by simp))) (X.2.2.2.2 _ (hlk _ (by simp))) (X.2.2.2.2 _ (hlk _ (by simp))) hy1 hd hR) ⟨fun a U g mk q => ⟨q.1, q.2.1, va_K.moved (u := U) (U := U.calling g mk a) (Vm.Alike.refl U.vm) q.2.2.1, zB_same q.2.2.2.1 rfl rfl, fun C hC => va_AO.moved (u := U) (U := U.calling g mk a) (Vm.Alike.refl U.vm) (q.2.2.2.2 C hC)⟩, fun U hU hW => ⟨rfl, by rw [hU]; exact hI, va_K.moved hW.alike hKv, zB_warm hB hW (fun a h1 h2 => by rw [hU]; exact hS.2.1 a h1 (fun z => absurd (hAb a z) (Nat.not_le.mpr h1))), fun C hC => va_AO.moved hW.alike (hAO C hC)⟩⟩ rfl rfl hls rfl (by show 2 * 0 + _ ≤ 8; omega) hdg hcs
  intro T hT X'
  obtain ⟨v, st₀, t, T', L, h0', X', hL, e1, e2, ⟨⟨⟨v', hv, hv2⟩, hI'⟩, hz, hk⟩, st'⟩ := hrun T hT X'
  cases hv
  rw [h0'] at hz hk
  rw [hv2] at st'
  obtain ⟨t2, a1, b1⟩ := kk T'.heap (locs ++ L) (fun q h1 h2 => by rw [e1]; exact hk q h1 h2) (by rw [e1]; exact hI')
    ⟨Nat.le_trans hS.1 (by rw [e1]; exact hz), fun q h1 h2 => by rw [e1, hk q (Nat.lt_of_lt_of_le h1 hS.1) (fun z => h2 (hA q z))]; exact hS.2.1 q h1 h2, fun q hq => by
      rcases List.mem_append.mp hq with h | h
      · exact hS.2.2 q h
      · exact hA _ (hL q h)⟩ T' rfl X'
  exact ⟨t2, st' t2 a1, b1⟩
end ZLAW
def TM2 (Inv : zS → zS → Prop) {ρ : Type} (f g : zS → Option (ρ × zS)) : Prop := ∀ X M, Inv X M → ∃ r X' M', f X = some (r, X') ∧ g M = some (r, M') ∧ Inv X' M'
theorem lw_and31 (x : Int32) (h : ∀ k : Nat, k < 31 → ¬ x &&& 31 = nI k) : (x &&& 31).toInt < 0 ∨ 30 < (x &&& 31).toInt := by
  obtain ⟨j, hj, e⟩ := pk_andE x (m := 31) 5 (by decide)
  right
  rw [e]
  have hj2 : ¬ j < 31 := fun hlt => h j hlt e
  rw [nI_toInt (by omega)]
  omega
theorem lw_in {k L j : Nat} (hL : L ≤ 3072) (h : k + 6 ≤ L) (hj : j < 6) {x y z : Int32} (hx : x = nI k) (hy : y = nI j) (hz : z = x + y) : vp_in z L := by
  rw [hz, hx, hy, nI_add]
  exact vp_in_nI (by omega) (by omega)
theorem lw_more {k L : Nat} (hL : L ≤ 3072) (hk : k ≤ 3078) (h : ¬ (Int32.ofNat L - 6 : Int32) < nI k) : k + 6 ≤ L := by
  have h1 : (Int32.ofNat L - 6 : Int32).toInt = (L : Int) - 6 := pk_sub_toInt (a := L) (b := 6) (by omega) (by omega)
  have h2 : (nI k).toInt = (k : Int) := nI_toInt (by omega)
  rw [Int32.lt_iff_toInt_lt, h1, h2] at h
  omega
