/-! how they begin -/
def X0 : zS := match fX7_init 0 (znew z0) with
  | some q => q.2
  | none => z0
def M0 : zS := match fX8_init 0 (znew z0) with
  | some q => q.2
  | none => z0
/-- the TEXT there is at first, byte by byte -/
def tx0 : List Int32 := [103, 105, 118, 101, 115, 32, 100, 97, 121, 32, 59, 32, 103, 108, 97, 100, 115, 32, 116, 104, 105, 110, 103, 32, 59, 32, 99, 111, 115, 116, 115, 32, 119, 111, 114, 100, 115, 32, 59, 32]
def B0 (j : Nat) : Int32 := tx0.getD j 0
abbrev IniX (X : zS) : Prop := (X.1 = 59 ∧ ∀ o, o < 59 → ∀ k, k < 13 → (o = 7 ∧ k = 2) ∨ (o = 9 ∧ k = 1) ∨ X.2.2.2 o k = rX o k) ∧ (∀ t, t < 12 → X.2.1 1 t = 0) ∧ (X.2.1 0 9 = 0 ∧ X.2.1 0 10 = 0 ∧ X.2.1 0 11 = 1 ∧ X.2.1 0 12 = 0 ∧ X.2.1 0 13 = 0) ∧ (∀ i, i < 5 → ∀ k, k < 4 → X.2.1 (22 + i) (k + 1) = 0) ∧ (∀ s, s < 4 → X.2.1 (51 + 2 * s) 1 = -1 ∧ X.2.1 (51 + 2 * s) 2 = 0) ∧ X.2.1 14 4 = -1 ∧ (X.2.1 27 3 = 3 ∧ X.2.1 28 0 = -5 ∧ X.2.1 28 1 = -1 ∧ X.2.1 28 2 = -2 ∧ X.2.1 27 4 = 3 ∧ X.2.1 29 0 = 1 ∧ X.2.1 29 1 = 2 ∧ X.2.1 29 2 = 3)
abbrev IniM (M : zS) : Prop := (M.1 = 16 ∧ ∀ o, o < 16 → ∀ k, k < 46 → M.2.2.2 o k = rM o k) ∧ (∀ t, t < 12 → M.2.1 4 t = 0) ∧ (M.2.1 0 7 = 0 ∧ M.2.1 0 11 = 0 ∧ M.2.1 0 3 = 1 ∧ M.2.1 0 4 = 0 ∧ M.2.1 0 6 = 0 ∧ M.2.1 0 39 = -1) ∧ (∀ k, k < 20 → M.2.1 6 k = 0) ∧ (∀ s, s < 4 → M.2.1 12 s = 0) ∧ (M.2.1 2 0 = 40 ∧ ∀ j, j < 40 → M.2.1 1 j = B0 j)
abbrev IniF (X M : zS) : Prop := ∀ j, j < 298 → X.2.1 2 j = M.2.1 7 j ∧ 1 ≤ (M.2.1 7 j).toNatClampNeg ∧ (M.2.1 7 j).toNatClampNeg ≤ 4095 ∧ M.2.1 7 j = nI (M.2.1 7 j).toNatClampNeg
set_option maxRecDepth 100000 in
set_option maxHeartbeats 40000000 in
theorem iniX : (fX7_init 0 (znew z0)).isSome = true ∧ IniX X0 := by decide +kernel
set_option maxRecDepth 100000 in
set_option maxHeartbeats 40000000 in
theorem iniM : (fX8_init 0 (znew z0)).isSome = true ∧ IniM M0 := by decide +kernel
set_option maxRecDepth 100000 in
set_option maxHeartbeats 40000000 in
theorem iniF : IniF X0 M0 := by decide +kernel
def rd0 : Bool := match rd3 (tC B0 40) (rdP (tC B0 40) (vlT B0 40) 5).1 with
  | .inr ((c1, c2, c3), _) => decide (c1 = [-5]) && decide (c2 = [-1]) && decide (c3 = [-2])
  | .inl _ => false
set_option maxRecDepth 100000 in
set_option maxHeartbeats 40000000 in
theorem rd0_t : rd0 = true := by decide +kernel
