def sumB (f : Nat → Int32) : Nat → Nat → Int32 → Int32
  | 0, _, acc => acc
  | m + 1, t, acc => sumB f m (t + 1) (acc + bcF (f t))
theorem sumB_congr {f g : Nat → Int32} : ∀ (m t : Nat) (acc : Int32), (∀ j, t ≤ j → j < t + m → f j = g j) → sumB f m t acc = sumB g m t acc
  | 0, _, _, _ => rfl
  | m + 1, t, acc, h => by
    rw [sumB, sumB, h t (Nat.le_refl t) (by omega)]
    exact sumB_congr m (t + 1) _ (fun j h1 h2 => h j (by omega) (by omega))
theorem bcF_pc {n : Nat} (h : n ≤ 4095) : bcF (nI n) = nI (pc n) := by
  have h1 := x_bits h z0
  rw [bc_eq] at h1
  have h2 := Option.some.inj h1
  exact congrArg Prod.fst h2
theorem x_likesOf {X : zS} (hX : shX X) {t : Nat} (h : t < 12) : fX7_likesOf 0 (nI t) X = some (X.2.1 1 t, X) := by
  have hr : X.2.2.2 0 0 = some 1 := hX.r (by decide) (by decide) (by decide) (by decide)
  have h0 : ¬ nI t < 0 := nI_pos (by omega)
  have h2 : ¬ (12 : Int32) ≤ nI t := nI_ge (b := 12) (a := t) h (by decide)
  have hz : zix spX 1 (nI t) = some t := zix_of rfl h (by decide)
  simp [fX7_likesOf, h0, zokX_0, zokX_1, zokX_2, zokX_3, zokX_4, zokX_5, zokX_6, zokX_7, zokX_8, zokX_9, zokX_10, zokX_11, zokX_12, zokX_13, zokX_14, zokX_15, zokX_16, zlaX_1, zlaX_2, zlaX_3, zlaX_4, zlaX_5, zlaX_6, zlaX_8, zlaX_11, zlaX_12, zlaX_13, zlaX_15, zlaX_16, zp_1, zp_h, zp_r, zp_l, zlet, Option.bind_some, spXe_0, spXe_1, spXe_2, spXe_3, spXe_4, spXe_5, spXe_6, spXe_7, spXe_8, spXe_9, spXe_10, spXe_11, spXe_12, spXe_13, spXe_14, spXe_15, spXe_16, hX.1, hr, h2, hz]
theorem x_lt2 {X : zS} (hX : shX X) (hl : ∀ t, t < 12 → NiR (X.2.1 1 t) 4095) : ∀ (m t n : Nat) (acc : Int32), t + m = 12 → m < n → fX7_likeTwos_L4 0 n acc (nI t) X = some (sumB (fun t => X.2.1 1 t) m t acc / 2, X)
  | 0, t, 0, _, _, h => by omega
  | 0, t, n + 1, acc, h, _ => by
    have e : t = 12 := by omega
    subst e
    rw [fX7_likeTwos_L4, if_pos (show (12 : Int32) ≤ nI 12 from by decide), if_neg (by decide)]
    rfl
  | m + 1, t, 0, _, _, h => by omega
  | m + 1, t, n + 1, acc, h, hn => by
    have h2 : ¬ (12 : Int32) ≤ nI t := nI_ge (b := 12) (a := t) (by omega) (by decide)
    obtain ⟨u, hu, hu2⟩ := hl t (by omega)
    have ih := x_lt2 hX hl m (t + 1) n (acc + nI (pc u)) (by omega) (by omega)
    rw [sumB]
    simp only [fX7_likeTwos_L4, if_neg h2, zokX_0 hX.1, Option.bind_some, x_likesOf hX (show t < 12 by omega), zlet, hu2, x_bits hu, bcF_pc hu, nI_1]
    exact ih
theorem m_lt2 {M : zS} (hM : shM M) (hl : ∀ t, t < 12 → NiR (M.2.1 4 t) 4095) : ∀ (m t n : Nat) (acc : Int32), t + m = 12 → m < n → fX8_likeTwos_L4 0 n acc (nI t) M = some (sumB (fun t => M.2.1 4 t) m t acc / 2, M)
  | 0, t, 0, _, _, h => by omega
  | 0, t, n + 1, acc, h, _ => by
    have e : t = 12 := by omega
    subst e
    rw [fX8_likeTwos_L4, if_pos (show (12 : Int32) ≤ nI 12 from by decide), if_neg (by decide)]
    rfl
  | m + 1, t, 0, _, _, h => by omega
  | m + 1, t, n + 1, acc, h, hn => by
    have h2 : ¬ (12 : Int32) ≤ nI t := nI_ge (b := 12) (a := t) (by omega) (by decide)
    obtain ⟨u, hu, hu2⟩ := hl t (by omega)
    have hr : M.2.2.2 0 8 = some 4 := hM.r (by decide) (by decide)
    have hz : zix spM 4 (nI t) = some t := zix_of rfl (by show t < 12; omega) (by decide)
    have ih := m_lt2 hM hl m (t + 1) n (acc + nI (pc u)) (by omega) (by omega)
    rw [sumB]
    simp only [fX8_likeTwos_L4, if_neg h2, zokM_0 hM.1, zokM_4 hM.1, hr, hz, Option.bind_some, zlet, hu2, m_bits hu, bcF_pc hu, nI_1]
    exact ih
theorem lt2_both {X M : zS} (hX : shX X) (hM : shM M) (hL : InvL X M) : ∃ r, fX7_likeTwos 0 X = some (r, X) ∧ fX8_likeTwos 0 M = some (r, M) := by
  have hl : ∀ t, t < 12 → NiR (X.2.1 1 t) 4095 := fun t ht => by rw [hL.1 t ht]; exact hL.2.1 t ht
  refine ⟨sumB (fun t => M.2.1 4 t) 12 0 0 / 2, ?_, m_lt2 hM hL.2.1 12 0 zF 0 rfl (by decide)⟩
  rw [← sumB_congr (f := fun t => X.2.1 1 t) 12 0 0 (fun j _ hj => hL.1 j (by omega))]
  exact x_lt2 hX hl 12 0 zF 0 rfl (by decide)
theorem t_count (a : Int32) : TM2 Inv (fun st => fX7_count 0 a st) (fun st => fX8_count 0 a st) := by
  intro X M h
  have hInv := h
  obtain ⟨⟨hX, hM⟩, hL, hD, hA, hP, hF, hS, hI, hT⟩ := h
  obtain ⟨⟨d1, _⟩, ⟨d2, _⟩, ⟨d3, _⟩, ⟨d4, _⟩⟩ := hD
  obtain ⟨p1, _⟩ := hP
  obtain ⟨r, r1, r2⟩ := lt2_both hX hM hL
  have hi := fun st => in_1 a 5 5 (by decide) st
  rcases cases_in a 6 (by decide) with f0 | ⟨f1, f0⟩ | ⟨i, hi6, rfl, f0⟩
  · have q : ∀ j : Nat, j < 6 → ¬ a = nI j := fun j hj e => nI_pos (n := j) (by omega) (e ▸ f0)
    refine ⟨-2, X, M, ?_, ?_, hInv⟩
    · have q0 := q 0 (by decide); have q1 := q 1 (by decide); have q2 := q 2 (by decide); have q3 := q 3 (by decide); have q4 := q 4 (by decide); have q5 := q 5 (by decide)
      show fX7_count 0 a X = _
      unfold fX7_count
      rw [if_neg (show ¬ a = (0 : Int32) from q0), if_neg (show ¬ a = (1 : Int32) from q1), if_neg (show ¬ a = (2 : Int32) from q2), if_neg (show ¬ a = (3 : Int32) from q3), if_neg (show ¬ a = (4 : Int32) from q4), if_neg (show ¬ a = (5 : Int32) from q5)]
    · simp only [fX8_count, hi, Option.bind_some, if_pos f0, if_true]
  · have f3 : (5 : Int32) < a := Int32.lt_of_lt_of_le (nI_lt (a := 5) (b := 6) (by decide) (by decide)) f1
    have q : ∀ j : Nat, j < 6 → ¬ a = nI j := fun j hj e => by rw [e] at f1; exact nI_ge (b := 6) hj (by decide) f1
    refine ⟨-2, X, M, ?_, ?_, hInv⟩
    · have q0 := q 0 (by decide); have q1 := q 1 (by decide); have q2 := q 2 (by decide); have q3 := q 3 (by decide); have q4 := q 4 (by decide); have q5 := q 5 (by decide)
      show fX7_count 0 a X = _
      unfold fX7_count
      rw [if_neg (show ¬ a = (0 : Int32) from q0), if_neg (show ¬ a = (1 : Int32) from q1), if_neg (show ¬ a = (2 : Int32) from q2), if_neg (show ¬ a = (3 : Int32) from q3), if_neg (show ¬ a = (4 : Int32) from q4), if_neg (show ¬ a = (5 : Int32) from q5)]
    · simp only [fX8_count, hi, Option.bind_some, if_neg f0, if_pos f3, if_true]
  · have f3 : ¬ (5 : Int32) < nI i := nI_nlt (a := 5) (by omega) (by decide)
    rcases (show i = 0 ∨ i = 1 ∨ i = 2 ∨ i = 3 ∨ i = 4 ∨ i = 5 by omega) with rfl | rfl | rfl | rfl | rfl | rfl
    · exact ⟨M.2.1 0 11, X, M, by simp [fX7_count, nI, zokX_0, zokX_1, zokX_2, zokX_3, zokX_4, zokX_5, zokX_6, zokX_7, zokX_8, zokX_9, zokX_10, zokX_11, zokX_12, zokX_13, zokX_14, zokX_15, zokX_16, zlaX_1, zlaX_2, zlaX_3, zlaX_4, zlaX_5, zlaX_6, zlaX_8, zlaX_11, zlaX_12, zlaX_13, zlaX_15, zlaX_16, zp_1, zp_h, zp_r, zp_l, zlet, Option.bind_some, spXe_0, spXe_1, spXe_2, spXe_3, spXe_4, spXe_5, spXe_6, spXe_7, spXe_8, spXe_9, spXe_10, spXe_11, spXe_12, spXe_13, spXe_14, spXe_15, spXe_16, hX.1, d2], by simp [fX8_count, nI, in_eq, zokM_0, zokM_1, zokM_2, zokM_3, zokM_4, zokM_5, zokM_6, zokM_7, zokM_8, zokM_9, zokM_10, zokM_11, zokM_12, zokM_13, zokM_14, zokM_15, zlaM_1, zlaM_2, zlaM_3, zlaM_4, zlaM_5, zlaM_6, zlaM_7, zlaM_8, zlaM_9, zlaM_10, zlaM_11, zlaM_12, zlaM_13, zlaM_14, zlaM_15, zp_1, zp_h, zp_r, zp_l, zlet, Option.bind_some, in_eq, spMe_0, spMe_1, spMe_2, spMe_3, spMe_4, spMe_5, spMe_6, spMe_7, spMe_8, spMe_9, spMe_10, spMe_11, spMe_12, spMe_13, spMe_14, spMe_15, hM.1], hInv⟩
    · exact ⟨r, X, M, by simp [fX7_count, nI, zokX_0, zokX_1, zokX_2, zokX_3, zokX_4, zokX_5, zokX_6, zokX_7, zokX_8, zokX_9, zokX_10, zokX_11, zokX_12, zokX_13, zokX_14, zokX_15, zokX_16, zlaX_1, zlaX_2, zlaX_3, zlaX_4, zlaX_5, zlaX_6, zlaX_8, zlaX_11, zlaX_12, zlaX_13, zlaX_15, zlaX_16, zp_1, zp_h, zp_r, zp_l, zlet, Option.bind_some, spXe_0, spXe_1, spXe_2, spXe_3, spXe_4, spXe_5, spXe_6, spXe_7, spXe_8, spXe_9, spXe_10, spXe_11, spXe_12, spXe_13, spXe_14, spXe_15, spXe_16, hX.1, r1], by simp [fX8_count, nI, in_eq, zokM_0, zokM_1, zokM_2, zokM_3, zokM_4, zokM_5, zokM_6, zokM_7, zokM_8, zokM_9, zokM_10, zokM_11, zokM_12, zokM_13, zokM_14, zokM_15, zlaM_1, zlaM_2, zlaM_3, zlaM_4, zlaM_5, zlaM_6, zlaM_7, zlaM_8, zlaM_9, zlaM_10, zlaM_11, zlaM_12, zlaM_13, zlaM_14, zlaM_15, zp_1, zp_h, zp_r, zp_l, zlet, Option.bind_some, in_eq, spMe_0, spMe_1, spMe_2, spMe_3, spMe_4, spMe_5, spMe_6, spMe_7, spMe_8, spMe_9, spMe_10, spMe_11, spMe_12, spMe_13, spMe_14, spMe_15, hM.1, r2], hInv⟩
    · exact ⟨M.2.1 0 7, X, M, by simp [fX7_count, nI, zokX_0, zokX_1, zokX_2, zokX_3, zokX_4, zokX_5, zokX_6, zokX_7, zokX_8, zokX_9, zokX_10, zokX_11, zokX_12, zokX_13, zokX_14, zokX_15, zokX_16, zlaX_1, zlaX_2, zlaX_3, zlaX_4, zlaX_5, zlaX_6, zlaX_8, zlaX_11, zlaX_12, zlaX_13, zlaX_15, zlaX_16, zp_1, zp_h, zp_r, zp_l, zlet, Option.bind_some, spXe_0, spXe_1, spXe_2, spXe_3, spXe_4, spXe_5, spXe_6, spXe_7, spXe_8, spXe_9, spXe_10, spXe_11, spXe_12, spXe_13, spXe_14, spXe_15, spXe_16, hX.1, d1], by simp [fX8_count, nI, in_eq, zokM_0, zokM_1, zokM_2, zokM_3, zokM_4, zokM_5, zokM_6, zokM_7, zokM_8, zokM_9, zokM_10, zokM_11, zokM_12, zokM_13, zokM_14, zokM_15, zlaM_1, zlaM_2, zlaM_3, zlaM_4, zlaM_5, zlaM_6, zlaM_7, zlaM_8, zlaM_9, zlaM_10, zlaM_11, zlaM_12, zlaM_13, zlaM_14, zlaM_15, zp_1, zp_h, zp_r, zp_l, zlet, Option.bind_some, in_eq, spMe_0, spMe_1, spMe_2, spMe_3, spMe_4, spMe_5, spMe_6, spMe_7, spMe_8, spMe_9, spMe_10, spMe_11, spMe_12, spMe_13, spMe_14, spMe_15, hM.1], hInv⟩
    · exact ⟨M.2.1 0 3, X, M, by simp [fX7_count, nI, zokX_0, zokX_1, zokX_2, zokX_3, zokX_4, zokX_5, zokX_6, zokX_7, zokX_8, zokX_9, zokX_10, zokX_11, zokX_12, zokX_13, zokX_14, zokX_15, zokX_16, zlaX_1, zlaX_2, zlaX_3, zlaX_4, zlaX_5, zlaX_6, zlaX_8, zlaX_11, zlaX_12, zlaX_13, zlaX_15, zlaX_16, zp_1, zp_h, zp_r, zp_l, zlet, Option.bind_some, spXe_0, spXe_1, spXe_2, spXe_3, spXe_4, spXe_5, spXe_6, spXe_7, spXe_8, spXe_9, spXe_10, spXe_11, spXe_12, spXe_13, spXe_14, spXe_15, spXe_16, hX.1, d3], by simp [fX8_count, nI, in_eq, zokM_0, zokM_1, zokM_2, zokM_3, zokM_4, zokM_5, zokM_6, zokM_7, zokM_8, zokM_9, zokM_10, zokM_11, zokM_12, zokM_13, zokM_14, zokM_15, zlaM_1, zlaM_2, zlaM_3, zlaM_4, zlaM_5, zlaM_6, zlaM_7, zlaM_8, zlaM_9, zlaM_10, zlaM_11, zlaM_12, zlaM_13, zlaM_14, zlaM_15, zp_1, zp_h, zp_r, zp_l, zlet, Option.bind_some, in_eq, spMe_0, spMe_1, spMe_2, spMe_3, spMe_4, spMe_5, spMe_6, spMe_7, spMe_8, spMe_9, spMe_10, spMe_11, spMe_12, spMe_13, spMe_14, spMe_15, hM.1], hInv⟩
    · exact ⟨M.2.1 0 6, X, M, by simp [fX7_count, nI, zokX_0, zokX_1, zokX_2, zokX_3, zokX_4, zokX_5, zokX_6, zokX_7, zokX_8, zokX_9, zokX_10, zokX_11, zokX_12, zokX_13, zokX_14, zokX_15, zokX_16, zlaX_1, zlaX_2, zlaX_3, zlaX_4, zlaX_5, zlaX_6, zlaX_8, zlaX_11, zlaX_12, zlaX_13, zlaX_15, zlaX_16, zp_1, zp_h, zp_r, zp_l, zlet, Option.bind_some, spXe_0, spXe_1, spXe_2, spXe_3, spXe_4, spXe_5, spXe_6, spXe_7, spXe_8, spXe_9, spXe_10, spXe_11, spXe_12, spXe_13, spXe_14, spXe_15, spXe_16, hX.1, p1], by simp [fX8_count, nI, in_eq, zokM_0, zokM_1, zokM_2, zokM_3, zokM_4, zokM_5, zokM_6, zokM_7, zokM_8, zokM_9, zokM_10, zokM_11, zokM_12, zokM_13, zokM_14, zokM_15, zlaM_1, zlaM_2, zlaM_3, zlaM_4, zlaM_5, zlaM_6, zlaM_7, zlaM_8, zlaM_9, zlaM_10, zlaM_11, zlaM_12, zlaM_13, zlaM_14, zlaM_15, zp_1, zp_h, zp_r, zp_l, zlet, Option.bind_some, in_eq, spMe_0, spMe_1, spMe_2, spMe_3, spMe_4, spMe_5, spMe_6, spMe_7, spMe_8, spMe_9, spMe_10, spMe_11, spMe_12, spMe_13, spMe_14, spMe_15, hM.1], hInv⟩
    · exact ⟨M.2.1 0 4, X, M, by simp [fX7_count, nI, zokX_0, zokX_1, zokX_2, zokX_3, zokX_4, zokX_5, zokX_6, zokX_7, zokX_8, zokX_9, zokX_10, zokX_11, zokX_12, zokX_13, zokX_14, zokX_15, zokX_16, zlaX_1, zlaX_2, zlaX_3, zlaX_4, zlaX_5, zlaX_6, zlaX_8, zlaX_11, zlaX_12, zlaX_13, zlaX_15, zlaX_16, zp_1, zp_h, zp_r, zp_l, zlet, Option.bind_some, spXe_0, spXe_1, spXe_2, spXe_3, spXe_4, spXe_5, spXe_6, spXe_7, spXe_8, spXe_9, spXe_10, spXe_11, spXe_12, spXe_13, spXe_14, spXe_15, spXe_16, hX.1, d4], by simp [fX8_count, nI, in_eq, zokM_0, zokM_1, zokM_2, zokM_3, zokM_4, zokM_5, zokM_6, zokM_7, zokM_8, zokM_9, zokM_10, zokM_11, zokM_12, zokM_13, zokM_14, zokM_15, zlaM_1, zlaM_2, zlaM_3, zlaM_4, zlaM_5, zlaM_6, zlaM_7, zlaM_8, zlaM_9, zlaM_10, zlaM_11, zlaM_12, zlaM_13, zlaM_14, zlaM_15, zp_1, zp_h, zp_r, zp_l, zlet, Option.bind_some, in_eq, spMe_0, spMe_1, spMe_2, spMe_3, spMe_4, spMe_5, spMe_6, spMe_7, spMe_8, spMe_9, spMe_10, spMe_11, spMe_12, spMe_13, spMe_14, spMe_15, hM.1], hInv⟩
