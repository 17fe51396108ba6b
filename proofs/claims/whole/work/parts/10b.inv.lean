/-! the invariant between the class's state X and the reference's M -/
def NiR (x : Int32) (n : Nat) : Prop := ∃ k : Nat, k ≤ n ∧ x = nI k
/-- bit b of x -/
def zbit (x : Int32) (b : Nat) : Bool := x.toBitVec.getLsbD b
/-- what is LIKE what: bits below 12, none like itself, both ways -/
def LkOK (f : Nat → Int32) : Prop := (∀ t, t < 12 → NiR (f t) 4095) ∧ (∀ t, t < 12 → zbit (f t) t = false) ∧ ∀ a, a < 12 → ∀ b, b < 12 → zbit (f a) b = zbit (f b) a
def InvL (X M : zS) : Prop := (∀ t, t < 12 → X.2.1 1 t = M.2.1 4 t) ∧ LkOK (fun t => M.2.1 4 t)
/-- DAY, how many ASKERS, TEXTS, THE RULE -/
def InvD (X M : zS) : Prop := (X.2.1 0 9 = M.2.1 0 7 ∧ NiR (M.2.1 0 7) 999) ∧ (X.2.1 0 10 = M.2.1 0 11 ∧ NiR (M.2.1 0 11) 5) ∧ (X.2.1 0 11 = M.2.1 0 3 ∧ ∃ k, 1 ≤ k ∧ k ≤ 6 ∧ M.2.1 0 3 = nI k) ∧ (X.2.1 0 12 = M.2.1 0 4 ∧ ∃ k r, r < k ∧ k ≤ 6 ∧ M.2.1 0 3 = nI k ∧ M.2.1 0 4 = nI r)
/-- an ASKER's numbers, of a row of four: number, shut, had, spent -/
def RowOK (f : Nat → Int32) : Prop := NiR (f 0) 9 ∧ NiR (f 1) 4095 ∧ NiR (f 2) 4095 ∧ NiR (f 3) 9999
def InvA (X M : zS) : Prop := (∀ i, i < 5 → ∀ k, k < 4 → X.2.1 (22 + i) (k + 1) = M.2.1 6 (4 * i + k)) ∧ (∀ i, i < 5 → RowOK (fun k => M.2.1 6 (4 * i + k))) ∧ (∀ i, nI i < M.2.1 0 11 → i < 5 → X.2.1 (22 + i) 0 = M.2.1 5 i ∧ NiR (M.2.1 5 i) 5)
def InvP (X M : zS) : Prop := X.2.1 0 13 = M.2.1 0 6 ∧ ∃ n, n ≤ 160 ∧ M.2.1 0 6 = nI n ∧ ∀ j, j < n → X.2.1 3 j = M.2.1 3 j ∧ NiR (M.2.1 3 j) 255
def InvF (X M : zS) : Prop := ∀ j, j < 298 → X.2.1 2 j = M.2.1 7 j ∧ ∃ n, 1 ≤ n ∧ n ≤ 4095 ∧ M.2.1 7 j = nI n
def InvS (X M : zS) : Prop := ∀ s, s < 4 → (M.2.1 13 s = X.2.1 (51 + 2 * s) 1 ∨ X.2.1 (51 + 2 * s) 1 = -1) ∧ (X.2.1 (51 + 2 * s) 1 = -1 ∧ M.2.1 12 s = 0 ∧ X.2.1 (51 + 2 * s) 2 = 0 ∨ (NiR (X.2.1 (51 + 2 * s) 1) 2 ∧ M.2.1 12 s = 1 ∧ ∃ n, n ≤ 40 ∧ X.2.1 (51 + 2 * s) 2 = nI n ∧ M.2.1 14 s = nI n ∧ ∀ j, j < n → X.2.1 (52 + 2 * s) j = M.2.1 15 (40 * s + j)))
def InvI (X M : zS) : Prop := X.2.1 14 4 = M.2.1 0 39 ∧ (M.2.1 0 39 = -1 ∨ ∃ k n, k ≤ n ∧ n ≤ 5 ∧ M.2.1 0 39 = nI k ∧ M.2.1 0 11 = nI n ∧ (∀ t, t < 12 → X.2.1 15 t = M.2.1 10 t) ∧ LkOK (fun t => M.2.1 10 t) ∧ (X.2.1 14 2 = M.2.1 0 40 ∧ NiR (M.2.1 0 40) 999) ∧ (X.2.1 14 3 = M.2.1 0 41 ∧ ∃ c r, r < c ∧ c ≤ 6 ∧ M.2.1 0 3 = nI c ∧ M.2.1 0 41 = nI r) ∧ (∀ i, i < 5 → ∀ j, j < 4 → X.2.1 (17 + i) (j + 1) = M.2.1 11 (4 * i + j)) ∧ (∀ i, i < 5 → RowOK (fun j => M.2.1 11 (4 * i + j))) ∧ ∀ i, i < k → X.2.1 (17 + i) 0 = M.2.1 5 i)
/-- the six names' values, as the class keeps them (object 8) and the reference (fields 13 to 18) -/
def envX (X : zS) (k : Nat) : Int32 := if k < 6 then X.2.1 8 k else 0
def envM (M : zS) (k : Nat) : Int32 := if k < 6 then M.2.1 0 (13 + k) else 0
/-- all but the reading's own numbers is as it was -/
def scrM (M M' : zS) : Prop := M'.1 = M.1 ∧ M'.2.2.2 = M.2.2.2 ∧ ∀ o k, (o = 0 ∧ 19 ≤ k ∧ k ≤ 27) ∨ M'.2.1 o k = M.2.1 o k
/-- all but a TEXT's stack and top is as it was -/
def scrX (t : Nat) (X X' : zS) : Prop := X'.1 = X.1 ∧ X'.2.2.2 = X.2.2.2 ∧ ∀ o k, (o = 27 + 4 * t ∧ k = 5) ∨ o = 30 + 4 * t ∨ X'.2.1 o k = X.2.1 o k
/-- TEXT t says F, part by part, whatever the names say -/
def TxX (X : zS) (t : Nat) (F : Nat → (Nat → Int32) → Int32) : Prop := ∀ X' : zS, shX X' → (∀ k, X'.2.1 (27 + 4 * t) k = X.2.1 (27 + 4 * t) k ∨ k = 5) → (∀ k, X'.2.1 (28 + 4 * t) k = X.2.1 (28 + 4 * t) k) → (∀ k, X'.2.1 (29 + 4 * t) k = X.2.1 (29 + 4 * t) k) → ∀ w, w < 3 → ∃ X'', fX4_valueOf (27 + 4 * t) (nI w) (some 8) X' = some (F w (envX X'), X'') ∧ scrX t X' X''
def TxM (M : zS) (t : Nat) (F : Nat → (Nat → Int32) → Int32) : Prop := ∀ M' : zS, shM M' → (∀ j, j < 160 → M'.2.1 1 (160 * t + j) = M.2.1 1 (160 * t + j)) → M'.2.1 2 t = M.2.1 2 t → ∀ w, w < 3 → ∃ M'', fX8_read 0 (nI t) (nI w) M' = some (F w (envM M'), M'') ∧ scrM M' M''
def InvT (X M : zS) : Prop := ∀ t, t < 6 → nI t < M.2.1 0 3 → ∃ F : Nat → (Nat → Int32) → Int32, TxX X t F ∧ TxM M t F
def Inv (X M : zS) : Prop := (shX X ∧ shM M) ∧ InvL X M ∧ InvD X M ∧ InvA X M ∧ InvP X M ∧ InvF X M ∧ InvS X M ∧ InvI X M ∧ InvT X M
theorem Inv.n {X M : zS} (h : Inv X M) : X.1 = 59 ∧ M.1 = 16 := ⟨h.1.1.1, h.1.2.1⟩
