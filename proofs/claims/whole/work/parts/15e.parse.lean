/-! the grammar, once: what is read from TOKEN i on: where it fails, or where it ends, the codes, the worth -/
abbrev PR : Type := Nat ⊕ (Nat × (List Int32 × ((Nat → Int32) → Int32)))
/-- what an operator of two says -/
def bo (c a b : Int32) : Int32 :=
  if c = -16 then (if a = 0 then 0 else if b = 0 then 0 else 1)
  else if c = -15 then (if a = b then 1 else 0)
  else if c = -14 then (if b ≤ a then 0 else 1)
  else if c = -13 then a * b
  else if c = -12 then a - b
  else if c = -11 then a + b
  else if a = 0 then (if b = 0 then 0 else 1) else 1
/-- one, and then operators with one each -/
def lpP (f : Nat → PR) (op : Nat → Int32) : Nat → Nat → List Int32 → ((Nat → Int32) → Int32) → PR
  | 0, i, cs, v => .inr (i, cs, v)
  | m + 1, i, cs, v => if op i = 0 then .inr (i, cs, v) else match f (i + 1) with
    | .inl e => .inl e
    | .inr (i', cs', v') => lpP f op m i' (cs ++ cs' ++ [op i]) (fun e => bo (op i) (v e) (v' e))
def chP (f : Nat → PR) (op : Nat → Int32) (i : Nat) : PR := match f i with
  | .inl e => .inl e
  | .inr (i', cs, v) => lpP f op 160 i' cs v
def oTm (T : Nat → Int32) (i : Nat) : Int32 := if T i = 42 then -13 else 0
def oSm (T : Nat → Int32) (i : Nat) : Int32 := if T i = 43 then -11 else if T i = 45 then -12 else 0
def oBt (T : Nat → Int32) (i : Nat) : Int32 := if T i = 2 then -16 else 0
def oEt (T : Nat → Int32) (i : Nat) : Int32 := if T i = 1 then -17 else 0
/-- NOT -/
def ntP (T : Nat → Int32) (can : Bool) (pN pS : Nat → PR) (i : Nat) : PR :=
  if T i = 3 then (if can = true then (match pN (i + 1) with
    | .inl e => .inl e
    | .inr (i', cs, v) => .inr (i', cs ++ [-18], fun e => if v e = 0 then 1 else 0)) else .inl i)
  else match pS i with
    | .inl e => .inl e
    | .inr (i1, c1, v1) => if T i1 = 60 ∨ T i1 = 61 then (match pS (i1 + 1) with
      | .inl e => .inl e
      | .inr (i2, c2, v2) => .inr (i2, c1 ++ c2 ++ [if T i1 = 60 then -14 else -15], fun e => bo (if T i1 = 60 then -14 else -15) (v1 e) (v2 e)))
      else .inr (i1, c1, v1)
/-- ONE -/
def onP (T V : Nat → Int32) (can : Bool) (pE pO : Nat → PR) (i : Nat) : PR :=
  if T i = 7 then .inr (i + 1, [V i], fun _ => V i)
  else if ¬ -1 < T i ∧ ¬ T i < -6 then .inr (i + 1, [T i], fun e => e (-1 - T i).toNatClampNeg)
  else if T i = 45 then (if can = true then (match pO (i + 1) with
    | .inl e => .inl e
    | .inr (i', cs, v) => .inr (i', cs ++ [-19], fun e => -(v e))) else .inl i)
  else if T i = 40 then (if can = true then (match pE (i + 1) with
    | .inl e => .inl e
    | .inr (i', cs, v) => if T i' = 41 then .inr (i' + 1, cs, v) else .inl i') else .inl i)
  else .inl i
def tmP (T V : Nat → Int32) (can : Bool) (pE pO : Nat → PR) : Nat → PR := chP (onP T V can pE pO) (oTm T)
def smP (T V : Nat → Int32) (can : Bool) (pE pO : Nat → PR) : Nat → PR := chP (tmP T V can pE pO) (oSm T)
def nnP (T V : Nat → Int32) (can : Bool) (pE pO pN : Nat → PR) : Nat → PR := ntP T can pN (smP T V can pE pO)
def btP (T V : Nat → Int32) (can : Bool) (pE pO pN : Nat → PR) : Nat → PR := chP (nnP T V can pE pO pN) (oBt T)
def etP (T V : Nat → Int32) (can : Bool) (pE pO pN : Nat → PR) : Nat → PR := chP (btP T V can pE pO pN) (oEt T)
/-- E, ONE, NOT, while r more may be opened -/
def rdP (T V : Nat → Int32) : Nat → (Nat → PR) × ((Nat → PR) × (Nat → PR))
  | 0 => (etP T V false .inl .inl .inl, onP T V false .inl .inl, nnP T V false .inl .inl .inl)
  | r + 1 => (etP T V true (rdP T V r).1 (rdP T V r).2.1 (rdP T V r).2.2, onP T V true (rdP T V r).1 (rdP T V r).2.1, nnP T V true (rdP T V r).1 (rdP T V r).2.1 (rdP T V r).2.2)
/-! what codes say, on a stack of 64 -/
def evC (e : Nat → Int32) (c : Int32) (stk : List Int32) : Option (List Int32) :=
  if ¬ c < 0 then (if stk.length < 64 then some (c :: stk) else none)
  else if ¬ -1 < c ∧ ¬ c < -6 then (if stk.length < 64 then some (e (-1 - c).toNatClampNeg :: stk) else none)
  else if c = -18 then (match stk with | a :: s => some ((if a = 0 then 1 else 0) :: s) | _ => none)
  else if c = -19 then (match stk with | a :: s => some (-a :: s) | _ => none)
  else (match stk with | b :: a :: s => some (bo c a b :: s) | _ => none)
def evL (e : Nat → Int32) : List Int32 → List Int32 → Option (List Int32)
  | [], stk => some stk
  | c :: cs, stk => (evC e c stk).bind (evL e cs)
theorem evL_app (e : Nat → Int32) : ∀ (cs ds stk : List Int32), evL e (cs ++ ds) stk = (evL e cs stk).bind (evL e ds)
  | [], ds, stk => rfl
  | c :: cs, ds, stk => by
    show (evC e c stk).bind (evL e (cs ++ ds)) = ((evC e c stk).bind (evL e cs)).bind (evL e ds)
    cases evC e c stk with
    | none => rfl
    | some s => exact evL_app e cs ds s
/-- codes that say v, wanting h places on the stack -/
def Says (h : Nat) (cs : List Int32) (v : (Nat → Int32) → Int32) : Prop := ∀ e stk, stk.length + h ≤ 64 → evL e cs stk = some (v e :: stk)
theorem Says.mono {h h' : Nat} {cs : List Int32} {v : (Nat → Int32) → Int32} (s : Says h cs v) (hh : h ≤ h') : Says h' cs v := fun e stk hs => s e stk (by omega)
theorem Says.two {h : Nat} {c1 c2 : List Int32} {v1 v2 : (Nat → Int32) → Int32} (s1 : Says (h + 1) c1 v1) (s2 : Says h c2 v2) {c : Int32} (h0 : c < 0) (hn : -1 < c ∨ c < -6) (h18 : ¬ c = -18) (h19 : ¬ c = -19) : Says (h + 1) (c1 ++ c2 ++ [c]) (fun e => bo c (v1 e) (v2 e)) := fun e stk hs => by
  rw [evL_app, evL_app, s1 e stk hs]
  show ((evL e c2 (v1 e :: stk)).bind (evL e [c])) = _
  rw [s2 e (v1 e :: stk) (by simp only [List.length_cons]; omega)]
  show (evC e c (v2 e :: v1 e :: stk)).bind (evL e []) = _
  have : evC e c (v2 e :: v1 e :: stk) = some (bo c (v1 e) (v2 e) :: stk) := by
    unfold evC
    rw [if_neg (fun q => q h0), if_neg (fun q => hn.elim (fun w => q.1 w) (fun w => q.2 w)), if_neg h18, if_neg h19]
  rw [this]
  rfl
theorem Says.not {h : Nat} {cs : List Int32} {v : (Nat → Int32) → Int32} (s : Says h cs v) : Says h (cs ++ [-18]) (fun e => if v e = 0 then 1 else 0) := fun e stk hs => by
  rw [evL_app, s e stk hs]
  rfl
theorem Says.neg {h : Nat} {cs : List Int32} {v : (Nat → Int32) → Int32} (s : Says h cs v) : Says h (cs ++ [-19]) (fun e => -(v e)) := fun e stk hs => by
  rw [evL_app, s e stk hs]
  rfl
theorem Says.num {x : Int32} (hx : ¬ x < 0) {h : Nat} (hh : 1 ≤ h) : Says h [x] (fun _ => x) := fun e stk hs => by
  show (evC e x stk).bind (evL e []) = _
  unfold evC
  rw [if_pos hx, if_pos (show stk.length < 64 by omega)]
  rfl
theorem Says.name {x : Int32} (h1 : ¬ -1 < x) (h2 : ¬ x < -6) {h : Nat} (hh : 1 ≤ h) : Says h [x] (fun e => e (-1 - x).toNatClampNeg) := fun e stk hs => by
  have h0 : x < 0 := Int32.lt_of_le_of_lt (Int32.not_lt.mp h1) (by decide)
  show (evC e x stk).bind (evL e []) = _
  unfold evC
  rw [if_neg (fun q => q h0), if_pos ⟨h1, h2⟩, if_pos (show stk.length < 64 by omega)]
  rfl
/-- what is read is well read: it goes on, it has no more codes than TOKENS, it says its worth -/
def OkR (B : Nat → Int32) (n h i : Nat) : PR → Prop
  | .inl e => vt B n e
  | .inr (i', cs, v) => i < i' ∧ vt B n i' ∧ cs.length ≤ i' - i ∧ Says h cs v
def OkF (B : Nat → Int32) (n h : Nat) (f : Nat → PR) : Prop := ∀ i, vt B n i → OkR B n h i (f i)
theorem op_vt {B : Nat → Int32} {n i : Nat} (h : vt B n i) {c : Int32} (hc : tC B n i = c) (h8 : ¬ c = 8) (h9 : ¬ c = 9) : vt B n (i + 1) := vt_s h (fun q => h8 (hc.symm.trans q)) (fun q => h9 (hc.symm.trans q))
def OkOp (B : Nat → Int32) (n : Nat) (op : Nat → Int32) : Prop := ∀ i, ¬ op i = 0 → (¬ tC B n i = 8 ∧ ¬ tC B n i = 9) ∧ op i < 0 ∧ (-1 < op i ∨ op i < -6) ∧ ¬ op i = -18 ∧ ¬ op i = -19
theorem OkF.lp {B : Nat → Int32} {n h : Nat} {f : Nat → PR} (hf : OkF B n h f) {op : Nat → Int32} (ho : OkOp B n op) : ∀ (m i i0 : Nat) (cs : List Int32) (v : (Nat → Int32) → Int32), i0 < i → vt B n i → cs.length ≤ i - i0 → Says (h + 1) cs v → OkR B n (h + 1) i0 (lpP f op m i cs v)
  | 0, i, i0, cs, v, h1, h2, h3, h4 => ⟨h1, h2, h3, h4⟩
  | m + 1, i, i0, cs, v, h1, h2, h3, h4 => by
    rw [lpP]
    by_cases c : op i = 0
    · rw [if_pos c]; exact ⟨h1, h2, h3, h4⟩
    · rw [if_neg c]
      obtain ⟨⟨q8, q9⟩, o1, o2, o3, o4⟩ := ho i c
      have hr := hf (i + 1) (vt_s h2 q8 q9)
      cases hfi : f (i + 1) with
      | inl e => rw [hfi] at hr; exact hr
      | inr r =>
        obtain ⟨i', cs', v'⟩ := r
        rw [hfi] at hr
        obtain ⟨r1, r2, r3, r4⟩ := hr
        refine OkF.lp hf ho m i' i0 _ _ (by omega) r2 ?_ (h4.two r4 o1 o2 o3 o4)
        simp only [List.length_append, List.length_cons, List.length_nil]
        omega
theorem OkF.ch {B : Nat → Int32} {n h : Nat} {f : Nat → PR} (hf : OkF B n h f) {op : Nat → Int32} (ho : OkOp B n op) : OkF B n (h + 1) (chP f op) := fun i hv => by
  unfold chP
  have hr := hf i hv
  cases hfi : f i with
  | inl e => rw [hfi] at hr; exact hr
  | inr r =>
    obtain ⟨i', cs', v'⟩ := r
    rw [hfi] at hr
    obtain ⟨r1, r2, r3, r4⟩ := hr
    exact hf.lp ho 160 i' i cs' v' r1 r2 r3 (r4.mono (by omega))
theorem okTm (B : Nat → Int32) (n : Nat) : OkOp B n (oTm (tC B n)) := fun i h => by
  unfold oTm at h ⊢
  by_cases c : tC B n i = 42
  · rw [if_pos c, c]; decide
  · rw [if_neg c] at h; exact absurd rfl h
theorem okSm (B : Nat → Int32) (n : Nat) : OkOp B n (oSm (tC B n)) := fun i h => by
  unfold oSm at h ⊢
  by_cases c : tC B n i = 43
  · rw [if_pos c, c]; decide
  · rw [if_neg c] at h ⊢
    by_cases d : tC B n i = 45
    · rw [if_pos d, d]; decide
    · rw [if_neg d] at h; exact absurd rfl h
theorem okBt (B : Nat → Int32) (n : Nat) : OkOp B n (oBt (tC B n)) := fun i h => by
  unfold oBt at h ⊢
  by_cases c : tC B n i = 2
  · rw [if_pos c, c]; decide
  · rw [if_neg c] at h; exact absurd rfl h
theorem okEt (B : Nat → Int32) (n : Nat) : OkOp B n (oEt (tC B n)) := fun i h => by
  unfold oEt at h ⊢
  by_cases c : tC B n i = 1
  · rw [if_pos c, c]; decide
  · rw [if_neg c] at h; exact absurd rfl h
theorem OkF.nt {B : Nat → Int32} {n h : Nat} {can : Bool} {pN pS : Nat → PR} (h1 : can = true → OkF B n (h + 1) pN) (h2 : OkF B n h pS) : OkF B n (h + 1) (ntP (tC B n) can pN pS) := fun i hv => by
  unfold ntP
  by_cases c3 : tC B n i = 3
  · rw [if_pos c3]
    cases can with
    | false => rw [if_neg (by decide)]; exact hv
    | true =>
      rw [if_pos rfl]
      have hr := h1 rfl (i + 1) (op_vt hv c3 (by decide) (by decide))
      cases hfi : pN (i + 1) with
      | inl e => rw [hfi] at hr; exact hr
      | inr r =>
        obtain ⟨i', cs', v'⟩ := r
        rw [hfi] at hr
        obtain ⟨r1, r2, r3, r4⟩ := hr
        exact ⟨by omega, r2, by simp only [List.length_append, List.length_cons, List.length_nil]; omega, r4.not⟩
  · rw [if_neg c3]
    have hr := h2 i hv
    cases hfi : pS i with
    | inl e => rw [hfi] at hr; exact hr
    | inr r =>
      obtain ⟨i1, c1, v1⟩ := r
      rw [hfi] at hr
      obtain ⟨r1, r2, r3, r4⟩ := hr
      show OkR B n (h + 1) i (if tC B n i1 = 60 ∨ tC B n i1 = 61 then _ else _)
      by_cases cc : tC B n i1 = 60 ∨ tC B n i1 = 61
      · rw [if_pos cc]
        have hv1 : vt B n (i1 + 1) := by
          rcases cc with w | w
          · exact op_vt r2 w (by decide) (by decide)
          · exact op_vt r2 w (by decide) (by decide)
        have hr2 := h2 (i1 + 1) hv1
        cases hfj : pS (i1 + 1) with
        | inl e => rw [hfj] at hr2; exact hr2
        | inr r' =>
          obtain ⟨i2, c2, v2⟩ := r'
          rw [hfj] at hr2
          obtain ⟨s1, s2, s3, s4⟩ := hr2
          refine ⟨by omega, s2, by simp only [List.length_append, List.length_cons, List.length_nil]; omega, (r4.mono (by omega)).two s4 ?_ ?_ ?_ ?_⟩
          all_goals split <;> decide
      · rw [if_neg cc]
        exact ⟨r1, r2, r3, r4.mono (by omega)⟩
theorem tkV_nn (B : Nat → Int32) (n i : Nat) (h : nI (tkV B n (psT B n i)) < 0) (hs : tkV B n (psT B n i) < 2 ^ 31) : False := nI_pos hs h
theorem OkF.on {B : Nat → Int32} {n h : Nat} {V : Nat → Int32} (hV : ∀ i, ¬ V i < 0) {can : Bool} {pE pO : Nat → PR} (hh : 1 ≤ h) (h1 : can = true → OkF B n h pE) (h2 : can = true → OkF B n h pO) : OkF B n h (onP (tC B n) V can pE pO) := fun i hv => by
  unfold onP
  by_cases c7 : tC B n i = 7
  · rw [if_pos c7]
    exact ⟨by omega, op_vt hv c7 (by decide) (by decide), by simp, Says.num (hV i) hh⟩
  · rw [if_neg c7]
    by_cases cn : ¬ -1 < tC B n i ∧ ¬ tC B n i < -6
    · rw [if_pos cn]
      have e8 : ¬ tC B n i = 8 := fun q => cn.1 (by rw [q]; decide)
      have e9 : ¬ tC B n i = 9 := fun q => cn.1 (by rw [q]; decide)
      exact ⟨by omega, vt_s hv e8 e9, by simp, Says.name cn.1 cn.2 hh⟩
    · rw [if_neg cn]
      by_cases c45 : tC B n i = 45
      · rw [if_pos c45]
        cases can with
        | false => rw [if_neg (by decide)]; exact hv
        | true =>
          rw [if_pos rfl]
          have hr := h2 rfl (i + 1) (op_vt hv c45 (by decide) (by decide))
          cases hfi : pO (i + 1) with
          | inl e => rw [hfi] at hr; exact hr
          | inr r =>
            obtain ⟨i', cs', v'⟩ := r
            rw [hfi] at hr
            obtain ⟨r1, r2, r3, r4⟩ := hr
            exact ⟨by omega, r2, by simp only [List.length_append, List.length_cons, List.length_nil]; omega, r4.neg⟩
      · rw [if_neg c45]
        by_cases c40 : tC B n i = 40
        · rw [if_pos c40]
          cases can with
          | false => rw [if_neg (by decide)]; exact hv
          | true =>
            rw [if_pos rfl]
            have hr := h1 rfl (i + 1) (op_vt hv c40 (by decide) (by decide))
            cases hfi : pE (i + 1) with
            | inl e => rw [hfi] at hr; exact hr
            | inr r =>
              obtain ⟨i', cs', v'⟩ := r
              rw [hfi] at hr
              obtain ⟨r1, r2, r3, r4⟩ := hr
              show OkR B n h i (if tC B n i' = 41 then _ else _)
              by_cases c41 : tC B n i' = 41
              · rw [if_pos c41]
                exact ⟨by omega, op_vt r2 c41 (by decide) (by decide), by omega, r4⟩
              · rw [if_neg c41]; exact r2
        · rw [if_neg c40]; exact hv
/-- every level reads well, five places of the stack a level -/
theorem OkF.lv {B : Nat → Int32} {n h : Nat} {V : Nat → Int32} (hV : ∀ i, ¬ V i < 0) {can : Bool} {pE pO pN : Nat → PR} (hh : 1 ≤ h) (h1 : can = true → OkF B n h pE) (h2 : can = true → OkF B n h pO) (h3 : can = true → OkF B n h pN) : OkF B n h (onP (tC B n) V can pE pO) ∧ OkF B n (h + 2) (smP (tC B n) V can pE pO) ∧ OkF B n (h + 3) (nnP (tC B n) V can pE pO pN) ∧ OkF B n (h + 4) (btP (tC B n) V can pE pO pN) ∧ OkF B n (h + 5) (etP (tC B n) V can pE pO pN) := by
  have a := OkF.on hV hh h1 h2
  have b := (a.ch (okTm B n)).ch (okSm B n)
  have c : OkF B n (h + 3) (nnP (tC B n) V can pE pO pN) := OkF.nt (fun q => fun i hv => by
    have := h3 q i hv
    cases hp : pN i with
    | inl e => rw [hp] at this; exact this
    | inr r =>
      obtain ⟨i', cs', v'⟩ := r
      rw [hp] at this
      exact ⟨this.1, this.2.1, this.2.2.1, this.2.2.2.mono (by omega)⟩) b
  exact ⟨a, b, c, c.ch (okBt B n), (c.ch (okBt B n)).ch (okEt B n)⟩
theorem OkF.up {B : Nat → Int32} {n h h' : Nat} {f : Nat → PR} (hf : OkF B n h f) (hh : h ≤ h') : OkF B n h' f := fun i hv => by
  have := hf i hv
  cases hp : f i with
  | inl e => rw [hp] at this; exact this
  | inr r =>
    obtain ⟨i', cs', v'⟩ := r
    rw [hp] at this
    exact ⟨this.1, this.2.1, this.2.2.1, this.2.2.2.mono hh⟩
theorem ok_rd {B : Nat → Int32} {n : Nat} {V : Nat → Int32} (hV : ∀ i, ¬ V i < 0) : ∀ r, OkF B n (5 * r + 6) (rdP (tC B n) V r).1 ∧ OkF B n (5 * r + 6) (rdP (tC B n) V r).2.1 ∧ OkF B n (5 * r + 6) (rdP (tC B n) V r).2.2
  | 0 => by
    obtain ⟨a, b, c, d, e⟩ := OkF.lv (B := B) (n := n) (h := 1) hV (can := false) (pE := .inl) (pO := .inl) (pN := .inl) (by decide) (fun q => by cases q) (fun q => by cases q) (fun q => by cases q)
    exact ⟨e, a.up (by omega), c.up (by omega)⟩
  | r + 1 => by
    obtain ⟨i1, i2, i3⟩ := ok_rd hV r
    obtain ⟨a, b, c, d, e⟩ := OkF.lv (B := B) (n := n) (h := 5 * r + 6) hV (can := true) (by omega) (fun _ => i1) (fun _ => i2) (fun _ => i3)
    exact ⟨e.up (by omega), a.up (by omega), c.up (by omega)⟩
