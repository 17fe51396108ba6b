theorem x_cpL {a d : Nat} (ha : spX a = (9, 12)) (hd : spX d = (9, 12)) (had : a ≠ d) (ha9 : a < 59) (hd9 : d < 59) : ∀ (m t n : Nat) (X : zS), X.1 = 59 → t + m = 12 → m < n → ∃ X', fX1_copyLikes_L2 n (some a) (some d) (nI t) X = some ((), X') ∧ X'.1 = 59 ∧ X'.2.2.2 = X.2.2.2 ∧ ∀ o k, X'.2.1 o k = if o = d ∧ t ≤ k ∧ k < 12 then X.2.1 a k else X.2.1 o k
  | m, t, 0, _, _, _, h => by omega
  | 0, t, n + 1, X, h1, h2, _ => by
    have e : t = 12 := by omega
    subst e
    refine ⟨X, ?_, h1, rfl, fun o k => by rw [if_neg (by omega)]⟩
    simp only [fX1_copyLikes_L2, zla_of (sp := spX) (st := X) (o := a) (by rw [h1]; exact ha9) (by rw [ha]; decide), Option.bind_some, ha]
    rw [if_pos (show Int32.ofNat 12 ≤ nI 12 from by decide)]
  | m + 1, t, n + 1, X, h1, h2, h3 => by
    have c : ¬ Int32.ofNat 12 ≤ nI t := nI_ge (b := 12) (a := t) (by omega) (by decide)
    have za : zix spX a (nI t) = some t := zix_of rfl (by rw [ha]; show t < 12; omega) (by rw [ha]; decide)
    have zd : zix spX d (nI t) = some t := zix_of rfl (by rw [hd]; show t < 12; omega) (by rw [hd]; decide)
    obtain ⟨X', e1, e2, e3, e4⟩ := x_cpL ha hd had ha9 hd9 m (t + 1) n (zp X d t (X.2.1 a t)) h1 (by omega) (by omega)
    refine ⟨X', ?_, e2, e3, fun o k => ?_⟩
    · simp only [fX1_copyLikes_L2, zla_of (sp := spX) (st := X) (o := a) (by rw [h1]; exact ha9) (by rw [ha]; decide), zla_of (sp := spX) (st := X) (o := d) (by rw [h1]; exact hd9) (by rw [hd]; decide), zok_of (sp := spX) (st := X) (o := a) (k := 9) (by rw [h1]; exact ha9) (by rw [ha]), zok_of (sp := spX) (st := X) (o := d) (k := 9) (by rw [h1]; exact hd9) (by rw [hd]), Option.bind_some, ha, hd, if_neg c, za, zd, zlet, nI_1]
      exact e1
    · rw [e4]
      by_cases c1 : o = d ∧ t + 1 ≤ k ∧ k < 12
      · rw [if_pos c1, if_pos ⟨c1.1, by omega, c1.2.2⟩, zp_h, if_neg (fun q => had q.1)]
      · rw [if_neg c1, zp_h]
        by_cases c2 : o = d ∧ k = t
        · obtain ⟨rfl, rfl⟩ := c2
          rw [if_pos ⟨rfl, rfl⟩, if_pos ⟨rfl, Nat.le_refl _, by omega⟩]
        · rw [if_neg c2, if_neg (fun q => by rcases Nat.lt_or_ge t k with h | h
                                             · exact c1 ⟨q.1, h, q.2.2⟩
                                             · exact c2 ⟨q.1, by omega⟩)]
theorem x_become {X : zS} (h1 : X.1 = 59) {p q : Nat} (hp : p < 59) (hq : q < 59) (sp1 : spX p = (0, 5)) (sq : spX q = (0, 5)) (hpq : p ≠ q) : ∃ X', fX0_becomeLike p (some q) X = some ((), X') ∧ X'.1 = 59 ∧ X'.2.2.2 = X.2.2.2 ∧ ∀ o k, X'.2.1 o k = if o = p ∧ k < 5 then X.2.1 q k else X.2.1 o k := by
  have zp' : ∀ Y : zS, Y.1 = 59 → zok spX Y (some p) 0 = some p := fun Y hY => zok_of (by rw [hY]; exact hp) (by rw [sp1])
  have zq' : ∀ Y : zS, Y.1 = 59 → zok spX Y (some q) 0 = some q := fun Y hY => zok_of (by rw [hY]; exact hq) (by rw [sq])
  have hqp : ¬ q = p := fun e => hpq e.symm
  refine ⟨zp (zp (zp (zp (zp X p 0 (X.2.1 q 0)) p 1 (X.2.1 q 1)) p 2 (X.2.1 q 2)) p 3 (X.2.1 q 3)) p 4 (X.2.1 q 4), ?_, h1, rfl, fun o k => ?_⟩
  · simp [fX0_becomeLike, zp', zq', zp_1, h1, zlet, zp_h, hqp]
  · simp only [zp_h]
    by_cases c : o = p
    · subst c
      by_cases k5 : k < 5
      · rcases (show k = 0 ∨ k = 1 ∨ k = 2 ∨ k = 3 ∨ k = 4 by omega) with rfl | rfl | rfl | rfl | rfl <;> simp
      · rw [if_neg (by omega), if_neg (by omega), if_neg (by omega), if_neg (by omega), if_neg (by omega), if_neg (by omega)]
    · simp [c]
