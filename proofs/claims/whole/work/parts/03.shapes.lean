def spX_l : List (Nat × Nat) := [(7, 14), (9, 12), (9, 298), (9, 160), (11, 5), (13, 6), (12, 4), (6, 15), (9, 6), (2, 5), (5, 8), (9, 161), (9, 161), (9, 161), (1, 5), (9, 12), (11, 5), (0, 5), (0, 5), (0, 5), (0, 5), (0, 5), (0, 5), (0, 5), (0, 5), (0, 5), (0, 5), (4, 6), (9, 160), (9, 3), (9, 64), (4, 6), (9, 160), (9, 3), (9, 64), (4, 6), (9, 160), (9, 3), (9, 64), (4, 6), (9, 160), (9, 3), (9, 64), (4, 6), (9, 160), (9, 3), (9, 64), (4, 6), (9, 160), (9, 3), (9, 64), (3, 3), (9, 40), (3, 3), (9, 40), (3, 3), (9, 40), (3, 3), (9, 40)]
def spX (o : Nat) : Nat × Nat := spX_l.getD o (0, 5)
theorem spX_all {P : Nat × Nat → Prop} (h : ∀ q ∈ spX_l, P q) (h0 : P (0, 5)) (o : Nat) : P (spX o) := by
  unfold spX
  rw [List.getD_eq_getElem?_getD]
  cases hq : spX_l[o]? with
  | none => exact h0
  | some q => exact h q (List.mem_of_getElem? hq)
theorem spX_X0 : ∀ o, (spX o).1 = 0 → (spX o).2 = 5 := fun o => spX_all (P := fun q => q.1 = 0 → q.2 = 5) (by decide +kernel) (by decide) o
theorem spX_X1 : ∀ o, (spX o).1 = 1 → (spX o).2 = 5 := fun o => spX_all (P := fun q => q.1 = 1 → q.2 = 5) (by decide +kernel) (by decide) o
theorem spX_X2 : ∀ o, (spX o).1 = 2 → (spX o).2 = 5 := fun o => spX_all (P := fun q => q.1 = 2 → q.2 = 5) (by decide +kernel) (by decide) o
theorem spX_X3 : ∀ o, (spX o).1 = 3 → (spX o).2 = 3 := fun o => spX_all (P := fun q => q.1 = 3 → q.2 = 3) (by decide +kernel) (by decide) o
theorem spX_X4 : ∀ o, (spX o).1 = 4 → (spX o).2 = 6 := fun o => spX_all (P := fun q => q.1 = 4 → q.2 = 6) (by decide +kernel) (by decide) o
theorem spX_X5 : ∀ o, (spX o).1 = 5 → (spX o).2 = 8 := fun o => spX_all (P := fun q => q.1 = 5 → q.2 = 8) (by decide +kernel) (by decide) o
theorem spX_X6 : ∀ o, (spX o).1 = 6 → (spX o).2 = 15 := fun o => spX_all (P := fun q => q.1 = 6 → q.2 = 15) (by decide +kernel) (by decide) o
theorem spX_X7 : ∀ o, (spX o).1 = 7 → (spX o).2 = 14 := fun o => spX_all (P := fun q => q.1 = 7 → q.2 = 14) (by decide +kernel) (by decide) o
theorem spX_X8 : ∀ o, (spX o).1 = 8 → (spX o).2 = 46 := fun o => spX_all (P := fun q => q.1 = 8 → q.2 = 46) (by decide +kernel) (by decide) o
theorem spX_14 : ∀ o, (spX o).1 < 14 := fun o => spX_all (P := fun q => q.1 < 14) (by decide +kernel) (by decide) o
def spM_l : List (Nat × Nat) := [(8, 46), (9, 960), (9, 6), (9, 160), (9, 12), (9, 5), (9, 20), (9, 298), (9, 20), (9, 12), (9, 12), (9, 20), (10, 4), (9, 4), (9, 4), (9, 160)]
def spM (o : Nat) : Nat × Nat := spM_l.getD o (9, 5)
theorem spM_all {P : Nat × Nat → Prop} (h : ∀ q ∈ spM_l, P q) (h0 : P (9, 5)) (o : Nat) : P (spM o) := by
  unfold spM
  rw [List.getD_eq_getElem?_getD]
  cases hq : spM_l[o]? with
  | none => exact h0
  | some q => exact h q (List.mem_of_getElem? hq)
theorem spM_X0 : ∀ o, (spM o).1 = 0 → (spM o).2 = 5 := fun o => spM_all (P := fun q => q.1 = 0 → q.2 = 5) (by decide +kernel) (by decide) o
theorem spM_X1 : ∀ o, (spM o).1 = 1 → (spM o).2 = 5 := fun o => spM_all (P := fun q => q.1 = 1 → q.2 = 5) (by decide +kernel) (by decide) o
theorem spM_X2 : ∀ o, (spM o).1 = 2 → (spM o).2 = 5 := fun o => spM_all (P := fun q => q.1 = 2 → q.2 = 5) (by decide +kernel) (by decide) o
theorem spM_X3 : ∀ o, (spM o).1 = 3 → (spM o).2 = 3 := fun o => spM_all (P := fun q => q.1 = 3 → q.2 = 3) (by decide +kernel) (by decide) o
theorem spM_X4 : ∀ o, (spM o).1 = 4 → (spM o).2 = 6 := fun o => spM_all (P := fun q => q.1 = 4 → q.2 = 6) (by decide +kernel) (by decide) o
theorem spM_X5 : ∀ o, (spM o).1 = 5 → (spM o).2 = 8 := fun o => spM_all (P := fun q => q.1 = 5 → q.2 = 8) (by decide +kernel) (by decide) o
theorem spM_X6 : ∀ o, (spM o).1 = 6 → (spM o).2 = 15 := fun o => spM_all (P := fun q => q.1 = 6 → q.2 = 15) (by decide +kernel) (by decide) o
theorem spM_X7 : ∀ o, (spM o).1 = 7 → (spM o).2 = 14 := fun o => spM_all (P := fun q => q.1 = 7 → q.2 = 14) (by decide +kernel) (by decide) o
theorem spM_X8 : ∀ o, (spM o).1 = 8 → (spM o).2 = 46 := fun o => spM_all (P := fun q => q.1 = 8 → q.2 = 46) (by decide +kernel) (by decide) o
theorem spM_14 : ∀ o, (spM o).1 < 14 := fun o => spM_all (P := fun q => q.1 < 14) (by decide +kernel) (by decide) o
def zF : Nat := 5000
def rmR (n : Nat) : Room := { frames := n + 20, cells := 0, slots := 0, locals := 80 * n + 600 }
theorem z24_24 : ∀ j, zg 8 j = 1 ↔ j = 24 := by
  intro j
  unfold zg
  split <;> first | omega | (constructor <;> intro h <;> omega) | skip
  all_goals (constructor <;> intro h <;> first | (cases h; done) | (subst h; first | rfl | contradiction | simp_all) | skip)
