/-! the class works out a PART -/
theorem scrX.rf (t : Nat) (X : zS) : scrX t X X := ⟨rfl, rfl, fun _ _ => Or.inr (Or.inr rfl)⟩
theorem scrX.tr {t : Nat} {X Y Z : zS} (h : scrX t X Y) (g : scrX t Y Z) : scrX t X Z := ⟨g.1.trans h.1, g.2.1.trans h.2.1, fun o k => by
  rcases h.2.2 o k with a | a | a
  · exact Or.inl a
  · exact Or.inr (Or.inl a)
  · rcases g.2.2 o k with b | b | b
    · exact Or.inl b
    · exact Or.inr (Or.inl b)
    · exact Or.inr (Or.inr (b.trans a))⟩
theorem scrX.at {t : Nat} {X X' : zS} (h : scrX t X X') {o k : Nat} (h1 : o ≠ 27 + 4 * t ∨ k ≠ 5) (h2 : o ≠ 30 + 4 * t) : X'.2.1 o k = X.2.1 o k := by
  rcases h.2.2 o k with a | a | a
  · omega
  · exact absurd a h2
  · exact a
theorem scrX.sh {t : Nat} {X X' : zS} (h : scrX t X X') (hX : shX X) : shX X' := ⟨h.1.trans hX.1, fun o ho k hk => by rw [h.2.1]; exact hX.2 o ho k hk⟩
theorem scrX.env {t : Nat} {X X' : zS} (h : scrX t X X') : envX X' = envX X := by
  funext k
  unfold envX
  by_cases c : k < 6
  · rw [if_pos c, if_pos c]; exact h.at (Or.inl (by omega)) (by omega)
  · rw [if_neg c, if_neg c]
theorem scrX.z5 {t : Nat} {X Y : zS} (h : scrX t X Y) (v : Int32) : scrX t X (zp Y (27 + 4 * t) 5 v) := ⟨h.1, h.2.1, fun o j => by
  by_cases e : o = 27 + 4 * t ∧ j = 5
  · exact Or.inl e
  · rcases h.2.2 o j with a | a | a
    · exact Or.inl a
    · exact Or.inr (Or.inl a)
    · exact Or.inr (Or.inr (by rw [zp_h, if_neg e]; exact a))⟩
theorem scrX.zs {t : Nat} {X Y : zS} (h : scrX t X Y) (k : Nat) (v : Int32) : scrX t X (zp Y (30 + 4 * t) k v) := ⟨h.1, h.2.1, fun o j => by
  by_cases e : o = 30 + 4 * t
  · exact Or.inr (Or.inl e)
  · rcases h.2.2 o j with a | a | a
    · exact Or.inl a
    · exact Or.inr (Or.inl a)
    · exact Or.inr (Or.inr (by rw [zp_h, if_neg (fun q => e q.1)]; exact a))⟩
/-- its stack -/
def SkX (t : Nat) (stk : List Int32) (X : zS) : Prop := X.2.1 (27 + 4 * t) 5 = nI stk.length ∧ (∀ j, j < stk.length → X.2.1 (30 + 4 * t) j = stk.getD (stk.length - 1 - j) 0) ∧ stk.length ≤ 64
theorem getD_cons_s (a : Int32) (s : List Int32) (k : Nat) : (a :: s).getD (k + 1) 0 = s.getD k 0 := rfl
theorem x_push {t : Nat} {X : zS} {stk : List Int32} (hX : shX X) (ht : t < 6) (hs : SkX t stk X) (hl : stk.length < 64) (v : Int32) : ∃ X', fX4_push (27 + 4 * t) v X = some ((), X') ∧ SkX t (v :: stk) X' ∧ scrX t X X' := by
  obtain ⟨s1, s2, s3, s4⟩ := spX_text ht
  have rt := rX_text hX ht
  have z := x_tx hX ht
  have z2 := x_tx (X := zp X (30 + 4 * t) stk.length v) hX ht
  obtain ⟨k1, k2, k3⟩ := hs
  have c0 : ¬ nI stk.length < 0 := nI_pos (by omega)
  have c1 : nI stk.length < Int32.ofNat (spX (30 + 4 * t)).2 := by rw [s4]; exact nI_lt hl (by decide)
  have hz : zix spX (30 + 4 * t) (nI stk.length) = some stk.length := zix_of rfl (by rw [s4]; exact hl) (by rw [s4]; decide)
  have k1' : (zp X (30 + 4 * t) stk.length v).2.1 (27 + 4 * t) 5 = nI stk.length := by rw [zp_h, if_neg (by omega)]; exact k1
  refine ⟨zp (zp X (30 + 4 * t) stk.length v) (27 + 4 * t) 5 (nI (stk.length + 1)), ?_, ⟨?_, fun j hj => ?_, by rw [List.length_cons]; omega⟩, ((scrX.rf t X).zs _ _).z5 _⟩
  · simp only [fX4_push, obs, zletE, z.1, k1, if_neg c0, rt.2.2.2, z.2.2.2.2.2.2, z.2.2.2.2.2.1, c1, if_true, hz, z2.1, k1', nI_1]
  · rw [zp_h, if_pos ⟨rfl, rfl⟩, List.length_cons]
  · rw [List.length_cons] at hj ⊢
    rw [zp_h, if_neg (by omega), zp_h]
    by_cases e : j = stk.length
    · subst e
      rw [if_pos ⟨rfl, rfl⟩, show stk.length + 1 - 1 - stk.length = 0 by omega]; rfl
    · rw [if_neg (by omega), k2 j (by omega), show stk.length + 1 - 1 - j = (stk.length - 1 - j) + 1 by omega, getD_cons_s]
theorem x_one {t : Nat} {X : zS} {a : Int32} {s : List Int32} (hX : shX X) (ht : t < 6) (hs : SkX t (a :: s) X) {c : Int32} (hc : c = -18 ∨ c = -19) : ∃ X', fX4_workOnOne (27 + 4 * t) c X = some ((), X') ∧ SkX t ((if c = -19 then -a else if a = 0 then 1 else 0) :: s) X' ∧ scrX t X X' := by
  obtain ⟨s1, s2, s3, s4⟩ := spX_text ht
  have rt := rX_text hX ht
  have z := x_tx hX ht
  obtain ⟨k1, k2, k3⟩ := hs
  rw [List.length_cons] at k1 k2 k3
  have e1 : nI (s.length + 1) - 1 = nI s.length := nI_pred _
  have c0 : ¬ nI s.length < 0 := nI_pos (by omega)
  have c1 : nI s.length < Int32.ofNat (spX (30 + 4 * t)).2 := by rw [s4]; exact nI_lt (by omega) (by decide)
  have hz : zix spX (30 + 4 * t) (nI s.length) = some s.length := zix_of rfl (by rw [s4]; show s.length < 64; omega) (by rw [s4]; decide)
  have ka : X.2.1 (30 + 4 * t) s.length = a := by
    rw [k2 s.length (by omega), show s.length + 1 - 1 - s.length = 0 by omega]; rfl
  have fin : ∀ v, SkX t (v :: s) (zp X (30 + 4 * t) s.length v) := fun v => ⟨by rw [zp_h, if_neg (by omega), List.length_cons]; exact k1, fun j hj => by
    rw [List.length_cons] at hj ⊢
    rw [zp_h]
    by_cases e : j = s.length
    · subst e
      rw [if_pos ⟨rfl, rfl⟩, show s.length + 1 - 1 - s.length = 0 by omega]; rfl
    · rw [if_neg (by omega), k2 j hj, show s.length + 1 - 1 - j = (s.length - 1 - j) + 1 by omega, getD_cons_s, getD_cons_s], by rw [List.length_cons]; exact k3⟩
  by_cases h19 : c = -19
  · refine ⟨zp X (30 + 4 * t) s.length (-a), ?_, ?_, (scrX.rf t X).zs _ _⟩
    · simp only [fX4_workOnOne, obs, zletE, z.1, k1, e1, if_neg c0, rt.2.2.2, z.2.2.2.2.2.2, z.2.2.2.2.2.1, c1, if_true, if_pos h19, hz, ka]
    · rw [if_pos h19]; exact fin _
  · by_cases ha : a = 0
    · refine ⟨zp X (30 + 4 * t) s.length 1, ?_, ?_, (scrX.rf t X).zs _ _⟩
      · simp only [fX4_workOnOne, fX4_workOnOne_j62, obs, zletE, z.1, k1, e1, if_neg c0, rt.2.2.2, z.2.2.2.2.2.2, z.2.2.2.2.2.1, c1, if_true, if_neg h19, hz, ka, if_pos ha]
      · rw [if_neg h19, if_pos ha]; exact fin _
    · refine ⟨zp X (30 + 4 * t) s.length 0, ?_, ?_, (scrX.rf t X).zs _ _⟩
      · simp only [fX4_workOnOne, fX4_workOnOne_j62, obs, zletE, z.1, k1, e1, if_neg c0, rt.2.2.2, z.2.2.2.2.2.2, z.2.2.2.2.2.1, c1, if_true, if_neg h19, hz, ka, if_neg ha]
      · rw [if_neg h19, if_neg ha]; exact fin _
theorem x_two {t : Nat} {X : zS} {a b : Int32} {s : List Int32} (hX : shX X) (ht : t < 6) (hs : SkX t (b :: a :: s) X) (c : Int32) : ∃ X', fX4_workOnTwo (27 + 4 * t) c X = some ((), X') ∧ SkX t (bo c a b :: s) X' ∧ scrX t X X' := by
  obtain ⟨s1, s2, s3, s4⟩ := spX_text ht
  have rt := rX_text hX ht
  have z := x_tx hX ht
  obtain ⟨k1, k2, k3⟩ := hs
  rw [List.length_cons, List.length_cons] at k1 k2 k3
  have e1 : nI (s.length + 1 + 1) - 1 = nI (s.length + 1) := nI_pred _
  have e2 : nI (s.length + 1) - 1 = nI s.length := nI_pred _
  have c0 : ¬ nI (s.length + 1) < 1 := nI_nlt (b := 1) (by omega) (by omega)
  have c1 : nI (s.length + 1) < Int32.ofNat (spX (30 + 4 * t)).2 := by rw [s4]; exact nI_lt (by omega) (by decide)
  have hz : zix spX (30 + 4 * t) (nI s.length) = some s.length := zix_of rfl (by rw [s4]; show s.length < 64; omega) (by rw [s4]; decide)
  have hz1 : zix spX (30 + 4 * t) (nI (s.length + 1)) = some (s.length + 1) := zix_of rfl (by rw [s4]; show s.length + 1 < 64; omega) (by rw [s4]; decide)
  have ka : X.2.1 (30 + 4 * t) s.length = a := by
    rw [k2 s.length (by omega), show s.length + 1 + 1 - 1 - s.length = 1 by omega]; rfl
  have kb : X.2.1 (30 + 4 * t) (s.length + 1) = b := by
    rw [k2 (s.length + 1) (by omega), show s.length + 1 + 1 - 1 - (s.length + 1) = 0 by omega]; rfl
  let X1 := zp X (27 + 4 * t) 5 (nI (s.length + 1))
  have hX1 : shX X1 := hX.zp _ _ _
  have z1 := x_tx hX1 ht
  have rt1 := rX_text hX1 ht
  have fin : ∀ v, SkX t (v :: s) (zp X1 (30 + 4 * t) s.length v) := fun v => ⟨by rw [zp_h, if_neg (by omega), zp_h, if_pos ⟨rfl, rfl⟩, List.length_cons], fun j hj => by
    rw [List.length_cons] at hj ⊢
    rw [zp_h]
    by_cases e : j = s.length
    · subst e
      rw [if_pos ⟨rfl, rfl⟩, show s.length + 1 - 1 - s.length = 0 by omega]; rfl
    · rw [if_neg (by omega), zp_h, if_neg (by omega), k2 j (by omega), show s.length + 1 + 1 - 1 - j = (s.length - 1 - j) + 1 + 1 by omega, show s.length + 1 - 1 - j = (s.length - 1 - j) + 1 by omega, getD_cons_s, getD_cons_s, getD_cons_s], by rw [List.length_cons]; omega⟩
  refine ⟨zp X1 (30 + 4 * t) s.length (bo c a b), ?_, fin _, ((scrX.rf t X).z5 _).zs _ _⟩
  have y1 : zok spX (zp X (27 + 4 * t) 5 (nI (s.length + 1))) (some (27 + 4 * t)) 4 = some (27 + 4 * t) := z1.1
  have y2 : zok spX (zp X (27 + 4 * t) 5 (nI (s.length + 1))) (some (30 + 4 * t)) 9 = some (30 + 4 * t) := z1.2.2.2.2.2.1
  unfold bo
  by_cases d1 : c = -16
  · rw [if_pos d1]
    by_cases f1 : a = 0
    · simp only [fX4_workOnTwo, fX4_workOnTwo_j193, fX4_workOnTwo_j194, obs, zletE, zp_r, z.1, k1, e1, e2, if_neg c0, rt.2.2.2, z.2.2.2.2.2.2, z.2.2.2.2.2.1, c1, if_true, hz, hz1, ka, kb, y1, y2, if_pos d1, if_pos f1, X1]
    · by_cases f2 : b = 0
      · simp only [fX4_workOnTwo, fX4_workOnTwo_j193, fX4_workOnTwo_j194, obs, zletE, zp_r, z.1, k1, e1, e2, if_neg c0, rt.2.2.2, z.2.2.2.2.2.2, z.2.2.2.2.2.1, c1, if_true, hz, hz1, ka, kb, y1, y2, if_pos d1, if_neg f1, if_pos f2, X1]
      · simp only [fX4_workOnTwo, fX4_workOnTwo_j193, fX4_workOnTwo_j194, obs, zletE, zp_r, z.1, k1, e1, e2, if_neg c0, rt.2.2.2, z.2.2.2.2.2.2, z.2.2.2.2.2.1, c1, if_true, hz, hz1, ka, kb, y1, y2, if_pos d1, if_neg f1, if_neg f2, X1]
  · rw [if_neg d1]
    by_cases d2 : c = -15
    · rw [if_pos d2]
      by_cases f1 : a = b
      · simp only [fX4_workOnTwo, fX4_workOnTwo_j169, obs, zletE, zp_r, z.1, k1, e1, e2, if_neg c0, rt.2.2.2, z.2.2.2.2.2.2, z.2.2.2.2.2.1, c1, if_true, hz, hz1, ka, kb, y1, y2, if_neg d1, if_pos d2, if_pos f1, X1]
      · simp only [fX4_workOnTwo, fX4_workOnTwo_j169, obs, zletE, zp_r, z.1, k1, e1, e2, if_neg c0, rt.2.2.2, z.2.2.2.2.2.2, z.2.2.2.2.2.1, c1, if_true, hz, hz1, ka, kb, y1, y2, if_neg d1, if_pos d2, if_neg f1, X1]
    · rw [if_neg d2]
      by_cases d3 : c = -14
      · rw [if_pos d3]
        by_cases f1 : b ≤ a
        · simp only [fX4_workOnTwo, fX4_workOnTwo_j147, obs, zletE, zp_r, z.1, k1, e1, e2, if_neg c0, rt.2.2.2, z.2.2.2.2.2.2, z.2.2.2.2.2.1, c1, if_true, hz, hz1, ka, kb, y1, y2, if_neg d1, if_neg d2, if_pos d3, if_pos f1, X1]
        · simp only [fX4_workOnTwo, fX4_workOnTwo_j147, obs, zletE, zp_r, z.1, k1, e1, e2, if_neg c0, rt.2.2.2, z.2.2.2.2.2.2, z.2.2.2.2.2.1, c1, if_true, hz, hz1, ka, kb, y1, y2, if_neg d1, if_neg d2, if_pos d3, if_neg f1, X1]
      · rw [if_neg d3]
        by_cases d4 : c = -13
        · rw [if_pos d4]
          simp only [fX4_workOnTwo, obs, zletE, zp_r, z.1, k1, e1, e2, if_neg c0, rt.2.2.2, z.2.2.2.2.2.2, z.2.2.2.2.2.1, c1, if_true, hz, hz1, ka, kb, y1, y2, if_neg d1, if_neg d2, if_neg d3, if_pos d4, X1]
        · rw [if_neg d4]
          by_cases d5 : c = -12
          · rw [if_pos d5]
            simp only [fX4_workOnTwo, obs, zletE, zp_r, z.1, k1, e1, e2, if_neg c0, rt.2.2.2, z.2.2.2.2.2.2, z.2.2.2.2.2.1, c1, if_true, hz, hz1, ka, kb, y1, y2, if_neg d1, if_neg d2, if_neg d3, if_neg d4, if_pos d5, X1]
          · rw [if_neg d5]
            by_cases d6 : c = -11
            · rw [if_pos d6]
              simp only [fX4_workOnTwo, obs, zletE, zp_r, z.1, k1, e1, e2, if_neg c0, rt.2.2.2, z.2.2.2.2.2.2, z.2.2.2.2.2.1, c1, if_true, hz, hz1, ka, kb, y1, y2, if_neg d1, if_neg d2, if_neg d3, if_neg d4, if_neg d5, if_pos d6, X1]
            · rw [if_neg d6]
              by_cases f1 : a = 0
              · by_cases f2 : b = 0
                · simp only [fX4_workOnTwo, fX4_workOnTwo_j214, fX4_workOnTwo_j219, obs, zletE, zp_r, z.1, k1, e1, e2, if_neg c0, rt.2.2.2, z.2.2.2.2.2.2, z.2.2.2.2.2.1, c1, if_true, hz, hz1, ka, kb, y1, y2, if_neg d1, if_neg d2, if_neg d3, if_neg d4, if_neg d5, if_neg d6, if_pos f1, if_pos f2, X1]
                · simp only [fX4_workOnTwo, fX4_workOnTwo_j214, fX4_workOnTwo_j219, obs, zletE, zp_r, z.1, k1, e1, e2, if_neg c0, rt.2.2.2, z.2.2.2.2.2.2, z.2.2.2.2.2.1, c1, if_true, hz, hz1, ka, kb, y1, y2, if_neg d1, if_neg d2, if_neg d3, if_neg d4, if_neg d5, if_neg d6, if_pos f1, if_neg f2, X1]
              · simp only [fX4_workOnTwo, fX4_workOnTwo_j214, fX4_workOnTwo_j219, obs, zletE, zp_r, z.1, k1, e1, e2, if_neg c0, rt.2.2.2, z.2.2.2.2.2.2, z.2.2.2.2.2.1, c1, if_true, hz, hz1, ka, kb, y1, y2, if_neg d1, if_neg d2, if_neg d3, if_neg d4, if_neg d5, if_neg d6, if_neg f1, X1]
theorem nm_k {c : Int32} (h0 : c < 0) (h6 : ¬ c < -6) : ∃ k, k < 6 ∧ c = cdW k := by
  rw [Int32.lt_iff_toInt_lt] at h0 h6
  have a1 : (0 : Int32).toInt = 0 := by decide
  have a2 : (-6 : Int32).toInt = -6 := by decide
  rcases (show c.toInt = -1 ∨ c.toInt = -2 ∨ c.toInt = -3 ∨ c.toInt = -4 ∨ c.toInt = -5 ∨ c.toInt = -6 by omega) with e | e | e | e | e | e
  · exact ⟨0, by decide, Int32.toInt_inj.mp (e.trans (by decide))⟩
  · exact ⟨1, by decide, Int32.toInt_inj.mp (e.trans (by decide))⟩
  · exact ⟨2, by decide, Int32.toInt_inj.mp (e.trans (by decide))⟩
  · exact ⟨3, by decide, Int32.toInt_inj.mp (e.trans (by decide))⟩
  · exact ⟨4, by decide, Int32.toInt_inj.mp (e.trans (by decide))⟩
  · exact ⟨5, by decide, Int32.toInt_inj.mp (e.trans (by decide))⟩
theorem nm_far {c : Int32} (h6 : c < -6) : ¬ (-1 - c) < 0 ∧ Int32.ofNat 6 ≤ -1 - c := by
  have a1 : (0 : Int32).toInt = 0 := by decide
  have a2 : (-6 : Int32).toInt = -6 := by decide
  have a3 : (-1 : Int32).toInt = -1 := by decide
  have a4 : (Int32.ofNat 6).toInt = 6 := by decide
  have b := Int32.le_toInt c
  rw [Int32.lt_iff_toInt_lt] at h6
  have e : (-1 - c).toInt = -1 - c.toInt := by
    rw [Int32.toInt_sub, a3, Int.bmod_def]
    omega
  rw [Int32.lt_iff_toInt_lt, Int32.le_iff_toInt_le]
  omega
theorem x_ev {t w : Nat} (ht : t < 6) (hw : w < 3) : ∀ (ds : List Int32) (i f : Nat) (X : zS) (stk : List Int32) (v : Int32), shX X → ds.length < f → (∀ j, j < ds.length → X.2.1 (28 + 4 * t) (i + j) = ds.getD j 0) → X.2.1 (29 + 4 * t) w = nI (i + ds.length) → i + ds.length ≤ 160 → SkX t stk X → evL (envX X) ds stk = some [v] → ∃ X', fX4_valueOf_L48 (27 + 4 * t) f (nI w) (some 8) (nI i) X = some (v, X') ∧ scrX t X X'
  | ds, i, 0, _, _, _, _, h, _, _, _, _, _ => by omega
  | [], i, f + 1, X, stk, v, hX, _, hd, he, hi, hs, hv => by
    obtain ⟨s1, s2, s3, s4⟩ := spX_text ht
    have rt := rX_text hX ht
    have z := x_tx hX ht
    have hv : some stk = some [v] := hv
    injection hv with hv
    subst hv
    have c0 : ¬ nI i < 0 := nI_pos (by rw [List.length_nil] at hi; omega)
    have hzw : zix spX (29 + 4 * t) (nI w) = some w := zix_of rfl (by rw [s3]; exact hw) (by rw [s3]; decide)
    have hz0 : zix spX (30 + 4 * t) 0 = some 0 := zix_of (j := 0) rfl (by rw [s4]; decide) (by rw [s4]; decide)
    have h0 : X.2.1 (30 + 4 * t) 0 = v := (hs.2.1 0 (by simp)).trans rfl
    have he : X.2.1 (29 + 4 * t) w = nI i := he
    have ii : nI i ≤ nI i := Int32.le_refl _
    refine ⟨X, ?_, scrX.rf t X⟩
    simp only [fX4_valueOf_L48, fX4_valueOf_j188, obs, zletE, if_neg c0, z.1, rt.2.2.1, z.2.2.2.1, hzw, he, if_pos ii, rt.2.2.2, z.2.2.2.2.2.1, hz0, h0]
  | c :: ds, i, f + 1, X, stk, v, hX, hf, hd, he, hi, hs, hv => by
    obtain ⟨s1, s2, s3, s4⟩ := spX_text ht
    have rt := rX_text hX ht
    have z := x_tx hX ht
    rw [List.length_cons] at hf hd he hi
    have r8 : zla spX X (some 8) = some 8 := zlaX_8 hX.1
    have c0 : ¬ nI i < 0 := nI_pos (by omega)
    have hzw : zix spX (29 + 4 * t) (nI w) = some w := zix_of rfl (by rw [s3]; exact hw) (by rw [s3]; decide)
    have hzi : zix spX (28 + 4 * t) (nI i) = some i := zix_of rfl (by rw [s2]; show i < 160; omega) (by rw [s2]; decide)
    have ii : ¬ nI (i + (ds.length + 1)) ≤ nI i := nI_ge (by omega) (by omega)
    have i2 : ¬ Int32.ofNat (spX (28 + 4 * t)).2 ≤ nI i := by rw [s2]; exact nI_ge (b := 160) (by omega) (by decide)
    have hc : X.2.1 (28 + 4 * t) i = c := (hd 0 (by omega)).trans rfl
    have hv : (evC (envX X) c stk).bind (evL (envX X) ds) = some [v] := hv
    have go : ∀ X1 stk1, SkX t stk1 X1 → scrX t X X1 → evL (envX X) ds stk1 = some [v] → ∃ X', fX4_valueOf_L48 (27 + 4 * t) f (nI w) (some 8) (nI (i + 1)) X1 = some (v, X') ∧ scrX t X X' := fun X1 stk1 q1 q2 q3 => by
      obtain ⟨X', y1, y2⟩ := x_ev ht hw ds (i + 1) f X1 stk1 v (q2.sh hX) (by omega) (fun j hj => by
        rw [q2.at (Or.inl (by omega)) (by omega), show i + 1 + j = i + (j + 1) by omega]
        exact hd (j + 1) (by omega)) (by rw [q2.at (Or.inl (by omega)) (by omega), he, show i + (ds.length + 1) = i + 1 + ds.length by omega]) (by omega) q1 (by rw [q2.env]; exact q3)
      exact ⟨X', y1, q2.tr y2⟩
    unfold evC at hv
    by_cases n0 : c < 0
    · rw [if_neg (fun q => q n0)] at hv
      by_cases n6 : c < -6
      · rw [if_neg (fun q => q.2 n6)] at hv
        obtain ⟨g1, g2⟩ := nm_far n6
        have g2' : Int32.ofNat (spX 8).2 ≤ -1 - c := g2
        by_cases d18 : c = -18
        · rw [if_pos d18] at hv
          cases stk with
          | nil => cases hv
          | cons a s =>
            obtain ⟨X1, b1, b2, b3⟩ := x_one hX ht hs (Or.inl d18)
            rw [if_neg (by rw [d18]; decide)] at b2
            obtain ⟨X', y1, y2⟩ := go X1 _ b2 b3 hv
            refine ⟨X', ?_, y2⟩
            simp only [fX4_valueOf_L48, fX4_valueOf_j133, fX4_valueOf_j157, fX4_valueOf_j182, x_place, obs, zletE, if_neg c0, z.1, rt.2.1, rt.2.2.1, z.2.1, z.2.2.1, z.2.2.2.1, hzw, he, if_neg ii, i2, if_false, hzi, hc, if_pos n0, if_neg g1, r8, g2', if_true, if_pos d18, b1, nI_1, y1]
        · rw [if_neg d18] at hv
          by_cases d19 : c = -19
          · rw [if_pos d19] at hv
            cases stk with
            | nil => cases hv
            | cons a s =>
              obtain ⟨X1, b1, b2, b3⟩ := x_one hX ht hs (Or.inr d19)
              rw [if_pos d19] at b2
              obtain ⟨X', y1, y2⟩ := go X1 _ b2 b3 hv
              refine ⟨X', ?_, y2⟩
              simp only [fX4_valueOf_L48, fX4_valueOf_j133, fX4_valueOf_j157, fX4_valueOf_j182, x_place, obs, zletE, if_neg c0, z.1, rt.2.1, rt.2.2.1, z.2.1, z.2.2.1, z.2.2.2.1, hzw, he, if_neg ii, i2, if_false, hzi, hc, if_pos n0, if_neg g1, r8, g2', if_true, if_neg d18, if_pos d19, b1, nI_1, y1]
          · rw [if_neg d19] at hv
            cases stk with
            | nil => cases hv
            | cons b s' =>
              cases s' with
              | nil => cases hv
              | cons a s =>
                obtain ⟨X1, b1, b2, b3⟩ := x_two hX ht hs c
                obtain ⟨X', y1, y2⟩ := go X1 _ b2 b3 hv
                refine ⟨X', ?_, y2⟩
                simp only [fX4_valueOf_L48, fX4_valueOf_j133, fX4_valueOf_j157, fX4_valueOf_j182, x_place, obs, zletE, if_neg c0, z.1, rt.2.1, rt.2.2.1, z.2.1, z.2.2.1, z.2.2.2.1, hzw, he, if_neg ii, i2, if_false, hzi, hc, if_pos n0, if_neg g1, r8, g2', if_true, if_neg d18, if_neg d19, b1, nI_1, y1]
      · obtain ⟨k, hk, ek⟩ := nm_k n0 n6
        have cf : ∀ k, k < 6 → ¬ -1 < cdW k ∧ -1 - cdW k = nI k := by decide
        obtain ⟨f1, f2⟩ := cf k hk
        have f2' : -1 - c = nI k := by rw [ek]; exact f2
        rw [if_pos ⟨by rw [ek]; exact f1, n6⟩, f2', nI_clamp (by omega)] at hv
        by_cases hl : stk.length < 64
        · rw [if_pos hl] at hv
          have hz8 : zix spX 8 (nI k) = some k := zix_of rfl (by show k < 6; exact hk) (by decide)
          have g1 : ¬ nI k < 0 := nI_pos (by omega)
          have g2 : ¬ Int32.ofNat (spX 8).2 ≤ nI k := nI_ge (b := 6) hk (by decide)
          have hek : envX X k = X.2.1 8 k := by unfold envX; rw [if_pos hk]
          rw [hek] at hv
          obtain ⟨X1, b1, b2, b3⟩ := x_push hX ht hs hl (X.2.1 8 k)
          obtain ⟨X', y1, y2⟩ := go X1 _ b2 b3 hv
          refine ⟨X', ?_, y2⟩
          have k8 : zok spX X (some 8) 9 = some 8 := zokX_8 hX.1
          simp only [fX4_valueOf_L48, fX4_valueOf_j182, x_place, obs, zletE, if_neg c0, z.1, rt.2.1, rt.2.2.1, z.2.1, z.2.2.1, z.2.2.2.1, hzw, he, if_neg ii, i2, if_false, hzi, hc, if_pos n0, f2', if_neg g1, r8, g2, k8, hz8, b1, nI_1, y1]
        · rw [if_neg hl] at hv; cases hv
    · rw [if_pos n0] at hv
      by_cases hl : stk.length < 64
      · rw [if_pos hl] at hv
        obtain ⟨X1, b1, b2, b3⟩ := x_push hX ht hs hl c
        obtain ⟨X', y1, y2⟩ := go X1 _ b2 b3 hv
        refine ⟨X', ?_, y2⟩
        simp only [fX4_valueOf_L48, fX4_valueOf_j182, x_place, obs, zletE, if_neg c0, z.1, rt.2.1, rt.2.2.1, z.2.1, z.2.2.1, z.2.2.2.1, hzw, he, if_neg ii, i2, if_false, hzi, hc, if_neg n0, b1, nI_1, y1]
      · rw [if_neg hl] at hv; cases hv
/-- a PART's value -/
theorem x_val {t : Nat} (ht : t < 6) {c1 c2 c3 : List Int32} {v1 v2 v3 : Val} {h : Nat} (hh : h ≤ 64) (q1 : Says h c1 v1) (q2 : Says h c2 v2) (q3 : Says h c3 v3) (hl : c1.length + c2.length + c3.length ≤ 160) {X : zS} (hC : CdX t (c1 ++ c2 ++ c3) X) (hE : EdX t [c1.length, (c1 ++ c2).length, (c1 ++ c2 ++ c3).length] X) : TxX X t (fun w => w3 w v1 v2 v3) := fun X' hX' h27 h28 h29 w hw => by
  obtain ⟨s1, s2, s3, s4⟩ := spX_text ht
  have rt := rX_text hX' ht
  have z := x_tx hX' ht
  have p4 : X'.2.1 (27 + 4 * t) 4 = nI 3 := by
    rcases h27 4 with a | a
    · exact a.trans hE.1
    · omega
  have cw : ¬ nI w < 0 := nI_pos (by omega)
  have c3' : ¬ nI 3 ≤ nI w := nI_ge hw (by decide)
  have cl : nI w < Int32.ofNat (spX (29 + 4 * t)).2 := by rw [s3]; exact nI_lt hw (by decide)
  let X1 := zp X' (27 + 4 * t) 5 0
  have hX1 : shX X1 := hX'.zp _ _ _
  have f1 : scrX t X' X1 := (scrX.rf t X').z5 _
  have hs : SkX t [] X1 := ⟨by show (zp X' (27 + 4 * t) 5 0).2.1 (27 + 4 * t) 5 = nI 0; rw [zp_h, if_pos ⟨rfl, rfl⟩]; rfl, fun j hj => absurd hj (Nat.not_lt_zero _), by decide⟩
  have code : ∀ j, j < (c1 ++ c2 ++ c3).length → X1.2.1 (28 + 4 * t) j = (c1 ++ c2 ++ c3).getD j 0 := fun j hj => by
    rw [f1.at (Or.inl (by omega)) (by omega), h28 j]; exact hC.2 j hj
  have ends : ∀ j, j < 3 → X1.2.1 (29 + 4 * t) j = nI ([c1.length, (c1 ++ c2).length, (c1 ++ c2 ++ c3).length].getD j 0) := fun j hj => by
    rw [f1.at (Or.inl (by omega)) (by omega), h29 j]; exact hE.2 j hj
  have run : ∀ (ds pre post : List Int32) (v : Val), c1 ++ c2 ++ c3 = pre ++ ds ++ post → X1.2.1 (29 + 4 * t) w = nI (pre.length + ds.length) → Says h ds v → ∃ X'', fX4_valueOf_L48 (27 + 4 * t) zF (nI w) (some 8) (nI pre.length) X1 = some (v (envX X'), X'') ∧ scrX t X' X'' := fun ds pre post v e1 e2 e3 => by
    have hlen : (c1 ++ c2 ++ c3).length = pre.length + ds.length + post.length := by rw [e1, List.length_append, List.length_append]
    rw [List.length_append, List.length_append] at hlen
    obtain ⟨X'', y1, y2⟩ := x_ev ht hw ds pre.length zF X1 [] (v (envX X')) hX1 (by show ds.length < 5000; omega) (fun j hj => by
      rw [code (pre.length + j) (by rw [List.length_append, List.length_append]; omega), e1, List.getD_eq_getElem?_getD, List.getD_eq_getElem?_getD, List.append_assoc, List.getElem?_append_right (by omega), Nat.add_sub_cancel_left, List.getElem?_append_left hj]) e2 (by omega) hs (by rw [f1.env]; exact e3 (envX X') [] (by rw [List.length_nil]; omega))
    exact ⟨X'', y1, f1.tr y2⟩
  have hzw : ∀ j, j < 3 → zix spX (29 + 4 * t) (nI j) = some j := fun j hj => zix_of rfl (by rw [s3]; exact hj) (by rw [s3]; decide)
  have e29 : ∀ j, X'.2.1 (29 + 4 * t) j = X1.2.1 (29 + 4 * t) j := fun j => (f1.at (Or.inl (by omega)) (by omega)).symm
  rcases (show w = 0 ∨ w = 1 ∨ w = 2 by omega) with rfl | rfl | rfl
  · obtain ⟨X'', y1, y2⟩ := run c1 [] (c2 ++ c3) v1 (by simp only [List.nil_append, List.append_assoc]) ((ends 0 (by decide)).trans (by simp)) q1
    refine ⟨X'', ?_, y2⟩
    have y1' : fX4_valueOf_L48 (27 + 4 * t) zF 0 (some 8) 0 (zp X' (27 + 4 * t) 5 0) = some (v1 (envX X'), X'') := y1
    have w0 : nI 0 = (0 : Int32) := nI_0
    rw [w0] at cw c3' cl
    rw [w0]
    simp only [fX4_valueOf, fX4_valueOf_j39, obs, zletE, if_neg cw, z.1, p4, if_neg c3', rt.2.2.1, z.2.2.2.2.1, cl, if_true, y1', w3]
  · obtain ⟨X'', y1, y2⟩ := run c2 c1 c3 v2 rfl ((ends 1 (by decide)).trans (by simp)) q2
    refine ⟨X'', ?_, y2⟩
    have hst : X'.2.1 (29 + 4 * t) 0 = nI c1.length := (e29 0).trans ((ends 0 (by decide)).trans rfl)
    have m1 : nI 1 - 1 = nI 0 := nI_pred 0
    have n1 : ¬ nI 1 = 0 := by decide
    simp only [fX4_valueOf, fX4_valueOf_j39, obs, zletE, if_neg cw, z.1, p4, if_neg c3', rt.2.2.1, z.2.2.2.2.1, z.2.2.2.1, cl, if_true, if_neg n1, m1, hzw 0 (by decide), hst, w3, if_neg (show ¬ 1 = 0 by decide)]
    exact y1
  · obtain ⟨X'', y1, y2⟩ := run c3 (c1 ++ c2) [] v3 (by simp only [List.append_nil]) ((ends 2 (by decide)).trans (by simp [Nat.add_assoc])) q3
    refine ⟨X'', ?_, y2⟩
    have hst : X'.2.1 (29 + 4 * t) 1 = nI (c1 ++ c2).length := (e29 1).trans ((ends 1 (by decide)).trans rfl)
    have m1 : nI 2 - 1 = nI 1 := nI_pred 1
    have n1 : ¬ nI 2 = 0 := by decide
    simp only [fX4_valueOf, fX4_valueOf_j39, obs, zletE, if_neg cw, z.1, p4, if_neg c3', rt.2.2.1, z.2.2.2.2.1, z.2.2.2.1, cl, if_true, if_neg n1, m1, hzw 1 (by decide), hst, w3, if_neg (show ¬ 2 = 0 by decide), if_neg (show ¬ 2 = 1 by decide)]
    exact y1
