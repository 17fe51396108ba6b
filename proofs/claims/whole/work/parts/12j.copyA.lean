theorem x_cpA {sa da ra rd : Nat} (hsa : spX sa = (11, 5)) (hda : spX da = (11, 5)) (bs : sa < 59) (bd : da < 59) (br : ra + 5 ≤ 59) (bq : rd + 5 ≤ 59) (kr : ∀ i, i < 5 → spX (ra + i) = (0, 5)) (kq : ∀ i, i < 5 → spX (rd + i) = (0, 5)) (dis : ra + 5 ≤ rd ∨ rd + 5 ≤ ra) : ∀ (m t n : Nat) (X : zS), X.1 = 59 → (∀ i, i < 5 → X.2.2.2 sa i = some (ra + i)) → (∀ i, i < 5 → X.2.2.2 da i = some (rd + i)) → t + m = 5 → m < n → ∃ X', fX1_copyAskers_L2 n (some sa) (some da) (nI t) X = some ((), X') ∧ X'.1 = 59 ∧ X'.2.2.2 = X.2.2.2 ∧ ∀ o k, X'.2.1 o k = if (rd + t ≤ o ∧ o < rd + 5) ∧ k < 5 then X.2.1 (ra + (o - rd)) k else X.2.1 o k
  | m, t, 0, _, _, _, _, _, h => by omega
  | 0, t, n + 1, X, h1, _, _, h2, _ => by
    have e : t = 5 := by omega
    subst e
    refine ⟨X, ?_, h1, rfl, fun o k => by rw [if_neg (by omega)]⟩
    simp only [fX1_copyAskers_L2, zla_of (sp := spX) (st := X) (o := sa) (by rw [h1]; exact bs) (by rw [hsa]; decide), Option.bind_some, hsa]
    rw [if_pos (show Int32.ofNat 5 ≤ nI 5 from by decide)]
  | m + 1, t, n + 1, X, h1, r1, r2, h2, h3 => by
    have c : ¬ Int32.ofNat 5 ≤ nI t := nI_ge (b := 5) (a := t) (by omega) (by decide)
    have za : zix spX sa (nI t) = some t := zix_of rfl (by rw [hsa]; show t < 5; omega) (by rw [hsa]; decide)
    have zd : zix spX da (nI t) = some t := zix_of rfl (by rw [hda]; show t < 5; omega) (by rw [hda]; decide)
    have t5 : t < 5 := by omega
    obtain ⟨Y, y1, y2, y3, y4⟩ := x_become h1 (p := rd + t) (q := ra + t) (by omega) (by omega) (kq t t5) (kr t t5) (by omega)
    obtain ⟨X', e1, e2, e3, e4⟩ := x_cpA hsa hda bs bd br bq kr kq dis m (t + 1) n Y y2 (fun i hi => by rw [y3]; exact r1 i hi) (fun i hi => by rw [y3]; exact r2 i hi) (by omega) (by omega)
    refine ⟨X', ?_, e2, e3.trans y3, fun o k => ?_⟩
    · simp only [fX1_copyAskers_L2, fX1_copyAskers_j35, zla_of (sp := spX) (st := X) (o := sa) (by rw [h1]; exact bs) (by rw [hsa]; decide), zla_of (sp := spX) (st := X) (o := da) (by rw [h1]; exact bd) (by rw [hda]; decide), zok_of (sp := spX) (st := X) (o := sa) (k := 11) (by rw [h1]; exact bs) (by rw [hsa]), zok_of (sp := spX) (st := X) (o := da) (k := 11) (by rw [h1]; exact bd) (by rw [hda]), Option.bind_some, hsa, hda, if_neg c, za, zd, r1 t t5, r2 t t5, if_neg (show ¬ (some (ra + t) = none) from fun q => by cases q), if_neg (show ¬ (some (rd + t) = none) from fun q => by cases q), zok_of (sp := spX) (st := X) (o := rd + t) (k := 0) (by rw [h1]; omega) (by rw [kq t t5]), y1, nI_1]
      exact e1
    · rw [e4]
      by_cases c1 : (rd + (t + 1) ≤ o ∧ o < rd + 5) ∧ k < 5
      · rw [if_pos c1, if_pos ⟨⟨by omega, c1.1.2⟩, c1.2⟩, y4, if_neg (by omega)]
      · rw [if_neg c1, y4]
        by_cases c2 : o = rd + t ∧ k < 5
        · rw [if_pos c2, if_pos ⟨⟨by omega, by omega⟩, c2.2⟩, show ra + (o - rd) = ra + t by omega]
        · rw [if_neg c2, if_neg (fun q => by
            by_cases h : o = rd + t
            · exact c2 ⟨h, q.2⟩
            · exact c1 ⟨⟨by omega, q.1.2⟩, q.2⟩)]
