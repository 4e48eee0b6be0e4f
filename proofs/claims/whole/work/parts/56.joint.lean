/-! BOTH SIDES DO THE SAME DEED: leave -/
theorem J_leave {I I1 I2 : IM} {v z z2 : Int} (hI : Inv I) (h : (¬ (0 ≤ v ∧ v < I 1 4) ∧ z = -1000000001 ∧ I1 = I) ∨ ((0 ≤ v ∧ v < I 1 4) ∧ z = I 1 4 - 1 ∧ ∃ Ia, RemC I Ia ∧ I1 = dropA Ia v)) (g : (¬ (0 ≤ v ∧ v < I1 149 4) ∧ z2 = -1000000001 ∧ I2 = I1) ∨ ((0 ≤ v ∧ v < I1 149 4) ∧ z2 = I1 149 4 - 1 ∧ I2 = lev (remM I1) v)) : z = z2 ∧ Inv I2 := by
  have n5 := hI.1.n4
  have hB := hI.1.1.1.2.2.2.2.2.1
  have hA := hI.1.1.1.2.2.2.2.1
  rcases h with ⟨h1, h2, h3⟩ | ⟨h1, h2, Ia, hR, h3⟩
  · rw [h3, n5] at g
    rcases g with ⟨g1, g2, g3⟩ | ⟨g1, -⟩
    · rw [g3]; exact ⟨by rw [h2, g2], hI⟩
    · exact absurd g1 h1
  · obtain ⟨b8, b9⟩ := RemC.both hI hR
    have a1 : Ia 1 = I 1 := hR.lo (by decide)
    have oth : ∀ k, ¬ k = 1 → (k < 3 ∨ 7 < k) → I1 k = Ia k := fun k q0 q1 => by
      rw [h3]
      unfold dropA
      rw [iup_other q0]
      funext b
      simp only [shA]
      rw [if_neg (by omega)]
    have i9 : I1 149 = I 149 := (oth 149 (by decide) (by omega)).trans b9
    have i8 : I1 148 = I 148 := (oth 148 (by decide) (by omega)).trans b8
    rw [i9, n5] at g
    rcases g with ⟨g1, -⟩ | ⟨g1, g2, g3⟩
    · exact absurd h1 g1
    · have hK : 0 ≤ I1 148 1 ∧ I1 148 1 ≤ 16 := by rw [i8]; have := hI.2.1; unfold Hst at this; omega
      have m5 : remM I1 149 4 = I 1 4 := by rw [remM_lo hK (Or.inl (by decide)), i9, n5]
      unfold lev at g3
      rw [m5] at g3
      unfold dropA at h3
      rw [a1] at h3
      generalize hn : I 1 4 = n at *
      have lo : ∀ k, ¬ k = 149 → I2 k = remM I1 k := fun k q0 => by
        rw [g3]
        funext b
        simp only [shW, q0, false_and, if_false]
      have lo2 : ∀ k, ¬ k = 149 → ¬ k = 148 → I2 k = I1 k := fun k q0 q1 => (lo k q0).trans (remM_o q1 q0)
      have c5 : I2 1 4 = n - 1 := by rw [lo2 1 (by decide) (by decide), h3, iup_at]
      have c1 : ∀ k, ¬ k = 4 → I2 1 k = I 1 k := fun k q => by rw [lo2 1 (by decide) (by decide), h3, iup_ne (fun y => q y.2), shA_1, a1]
      have c2 : I2 2 = I 2 := by rw [lo2 2 (by decide) (by decide), oth 2 (by decide) (by omega)]; exact hR.lo (by decide)
      have cs : ∀ k s, 3 ≤ k → k ≤ 7 → I2 k s = if v ≤ s ∧ s < n - 1 then I k (s + 1) else I k s := fun k s q0 q1 => by
        rw [lo2 k (by omega) (by omega), h3, iup_other (by omega)]
        simp only [shA]
        rw [hR.lo q1]
        by_cases q : v ≤ s ∧ s < n - 1
        · rw [if_pos ⟨⟨q0, q1⟩, q⟩, if_pos q]
        · rw [if_neg (fun y => q y.2), if_neg q]
      have w5 : I2 149 4 = n - 1 := by rw [g3]; simp only [shW, true_and]; rw [if_pos trivial]
      have w : ∀ b, b < 90 → ¬ b = 4 → I2 149 b = if 55 + 4 * v ≤ b ∧ b < 55 + 4 * (n - 1) then I 149 (b + 4) else I 149 b := fun b q0 q1 => by
        rw [g3]
        simp only [shW, true_and]
        rw [if_neg q1]
        by_cases q : 55 + 4 * v ≤ b ∧ b < 55 + 4 * (n - 1)
        · rw [if_pos q, if_pos q, remM_lo hK (Or.inl (by omega)), i9]
        · rw [if_neg q, if_neg q, remM_lo hK (Or.inl q0), i9]
      have wl : ∀ b, (b < 55 + 4 * v ∨ 55 + 4 * (n - 1) ≤ b) → b < 90 → ¬ b = 4 → I2 149 b = I 149 b := fun b q0 q1 q2 => by rw [w b q1 q2, if_neg (by omega)]
      obtain ⟨⟨⟨q0, q1, q2, q3, q4, q5, q6⟩, qs, qp⟩, ⟨r0, r1, r2, r3, r4, r5⟩, rd, rs, rp⟩ := id hI.1
      have e0 := c1 0 (by decide)
      have e1 := c1 1 (by decide)
      have e2 := c1 2 (by decide)
      have e3 := c1 3 (by decide)
      have e4 := c1 5 (by decide)
      have sl : ∀ s, Slot1 I2 s → (¬ (v ≤ s ∧ s < n - 1) ∧ Slot1 I s ∧ (s < v ∨ 5 ≤ s) ∧ 0 ≤ s ∧ s < 8) ∨ ((v ≤ s ∧ s < n - 1) ∧ Slot1 I (s + 1)) := fun s hs => by unfold Slot1 at *; omega
      refine ⟨by rw [h2, g2], deed hI hR (I1 := I1) (fun k q => oth k (by omega) (by omega)) (fun k q => lo2 k (by omega) (by omega)) (fun k _ => by rw [lo 148 (by decide)]) (fun k k0 _ => ?_) ?_⟩
      · rw [g3]
        simp only [shW, true_and]
        rw [if_neg (by omega), if_neg (by omega)]
      refine ⟨⟨⟨by omega, by omega, by omega, by omega, by omega, by omega, by rw [c2]; exact q6⟩, fun s hs => ?_, fun x x0 x1 => ?_⟩, ⟨by rw [e0, wl 0 (by omega) (by decide) (by decide)]; exact r0, by rw [e1, wl 1 (by omega) (by decide) (by decide)]; exact r1, by rw [e2, wl 2 (by omega) (by decide) (by decide)]; exact r2, by rw [e3, wl 3 (by omega) (by decide) (by decide)]; exact r3, by rw [c5, w5], by rw [e4, wl 5 (by omega) (by decide) (by decide)]; exact r5⟩, fun k k0 k1 => ?_, fun s hs => ?_, fun x x0 x1 => ?_⟩
      · rw [cs 3 s (by decide) (by decide), cs 4 s (by decide) (by decide), cs 5 s (by decide) (by decide)]
        rcases sl s hs with ⟨q, qq, -⟩ | ⟨q, qq⟩
        · rw [if_neg q, if_neg q, if_neg q]; exact qs s qq
        · rw [if_pos q, if_pos q, if_pos q]; exact qs _ qq
      · rw [c5] at x1
        rw [cs 6 x (by decide) (by decide), cs 7 x (by decide) (by decide), e0, e1]
        by_cases q : v ≤ x ∧ x < n - 1
        · rw [if_pos q, if_pos q]; exact qp (x + 1) (by omega) (by omega)
        · rw [if_neg q, if_neg q]; exact qp x x0 (by omega)
      · rw [c2, wl (6 + k) (by omega) (by omega) (by omega)]
        exact rd k k0 k1
      · rw [cs 3 s (by decide) (by decide), cs 4 s (by decide) (by decide), cs 5 s (by decide) (by decide)]
        rcases sl s hs with ⟨q, qq, q7, q8, q9⟩ | ⟨q, qq⟩
        · rw [if_neg q, if_neg q, if_neg q, wl (55 + 4 * s) (by omega) (by omega) (by omega), wl (55 + 4 * s + 1) (by omega) (by omega) (by omega), wl (55 + 4 * s + 2) (by omega) (by omega) (by omega)]
          exact rs s qq
        · rw [if_pos q, if_pos q, if_pos q, w (55 + 4 * s) (by omega) (by omega), w (55 + 4 * s + 1) (by omega) (by omega), w (55 + 4 * s + 2) (by omega) (by omega), if_pos (by omega), if_pos (by omega), if_pos (by omega)]
          have := rs _ qq
          rw [show 55 + 4 * (s + 1) = 55 + 4 * s + 4 by omega] at this
          rw [show 55 + 4 * s + 1 + 4 = 55 + 4 * s + 4 + 1 by omega, show 55 + 4 * s + 2 + 4 = 55 + 4 * s + 4 + 2 by omega]
          exact this
      · rw [c5] at x1
        rw [cs 6 x (by decide) (by decide), cs 7 x (by decide) (by decide), e0]
        by_cases q : v ≤ x ∧ x < n - 1
        · rw [if_pos q, if_pos q, w (55 + 4 * x + 3) (by omega) (by omega), if_pos (by omega)]
          have := rp (x + 1) (by omega) (by omega)
          rw [show 55 + 4 * (x + 1) + 3 = 55 + 4 * x + 3 + 4 by omega] at this
          exact this
        · rw [if_neg q, if_neg q, wl (55 + 4 * x + 3) (by omega) (by omega) (by omega)]
          exact rp x x0 (by omega)
