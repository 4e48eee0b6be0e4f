/-! BOTH SIDES DO THE SAME DEED: arrive -/
theorem J_arrive {I I1 I2 : IM} {a b c z z2 : Int} (hI : Inv I) (h : (((a < 1 ∨ 9 < a) ∨ (b < 0 ∨ 2 < b) ∨ (c < 1 ∨ 2 < c)) ∧ z = -1000000002 ∧ I1 = I) ∨ (¬ ((a < 1 ∨ 9 < a) ∨ (b < 0 ∨ 2 < b) ∨ (c < 1 ∨ 2 < c)) ∧ ¬ I 1 5 < 3 ∧ z = -1000000004 ∧ I1 = I) ∨ (¬ ((a < 1 ∨ 9 < a) ∨ (b < 0 ∨ 2 < b) ∨ (c < 1 ∨ 2 < c)) ∧ I 1 5 < 3 ∧ z = I 1 5 ∧ ∃ Ia, RemC I Ia ∧ I1 = iup (iup (iup (iup Ia 3 (5 + Ia 1 5) a) 4 (5 + Ia 1 5) b) 5 (5 + Ia 1 5) c) 1 5 (Ia 1 5 + 1)))
    (g : (¬ ((1 ≤ a ∧ a ≤ 9) ∧ (0 ≤ b ∧ b ≤ 2) ∧ (1 ≤ c ∧ c ≤ 2)) ∧ z2 = -1000000002 ∧ I2 = I1) ∨ (((1 ≤ a ∧ a ≤ 9) ∧ (0 ≤ b ∧ b ≤ 2) ∧ (1 ≤ c ∧ c ≤ 2)) ∧ I1 149 5 = 3 ∧ z2 = -1000000004 ∧ I2 = I1) ∨ (((1 ≤ a ∧ a ≤ 9) ∧ (0 ≤ b ∧ b ≤ 2) ∧ (1 ≤ c ∧ c ≤ 2)) ∧ ¬ I1 149 5 = 3 ∧ z2 = I1 149 5 ∧ I2 = iup (iup (iup (iup (remM I1) 149 (75 + 4 * I1 149 5) a) 149 (75 + 4 * I1 149 5 + 1) b) 149 (75 + 4 * I1 149 5 + 2) c) 149 5 (I1 149 5 + 1))) : z = z2 ∧ Inv I2 := by
  have n5 := hI.1.n5
  have hB := hI.1.1.1.2.2.2.2.2.1
  rcases h with ⟨h1, h2, h3⟩ | ⟨h0, h1, h2, h3⟩ | ⟨h0, h1, h2, Ia, hR, h3⟩
  · rcases g with ⟨g1, g2, g3⟩ | ⟨g1, -⟩ | ⟨g1, -⟩
    · rw [g3, h3]; exact ⟨by rw [h2, g2], hI⟩
    · omega
    · omega
  · rw [h3, n5] at g
    rcases g with ⟨g1, -⟩ | ⟨g0, g1, g2, g3⟩ | ⟨g0, g1, -⟩
    · omega
    · rw [g3]; exact ⟨by rw [h2, g2], hI⟩
    · omega
  · obtain ⟨b8, b9⟩ := RemC.both hI hR
    have i9 : I1 149 = I 149 := by rw [h3, iup_other (by decide), iup_other (by decide), iup_other (by decide), iup_other (by decide)]; exact b9
    have i8 : I1 148 = I 148 := by rw [h3, iup_other (by decide), iup_other (by decide), iup_other (by decide), iup_other (by decide)]; exact b8
    have a1 : Ia 1 = I 1 := hR.lo (by decide)
    rw [i9, n5] at g
    rw [a1] at h3
    rcases g with ⟨g1, -⟩ | ⟨g0, g1, -⟩ | ⟨g0, g1, g2, g3⟩
    · omega
    · omega
    · generalize hn : I 1 5 = n at *
      have hK : 0 ≤ I1 148 1 ∧ I1 148 1 ≤ 16 := by rw [i8]; have := hI.2.1; unfold Hst at this; omega
      have lo : ∀ k, ¬ k = 149 → ¬ k = 148 → I2 k = I1 k := fun k q0 q1 => by rw [g3, iup_other q0, iup_other q0, iup_other q0, iup_other q0, remM_o q1 q0]
      have w : ∀ k, k < 90 → ¬ k = 5 → ¬ (75 + 4 * n ≤ k ∧ k ≤ 75 + 4 * n + 2) → I2 149 k = I 149 k := fun k q0 q1 q2 => by rw [g3, iup_ne (by omega), iup_ne (by omega), iup_ne (by omega), iup_ne (by omega), remM_lo hK (Or.inl q0), i9]
      have w5 : I2 149 5 = n + 1 := by rw [g3, iup_at]
      have wa : I2 149 (75 + 4 * n) = a := by rw [g3, iup_ne (by omega), iup_ne (by omega), iup_ne (by omega), iup_at]
      have wb : I2 149 (75 + 4 * n + 1) = b := by rw [g3, iup_ne (by omega), iup_ne (by omega), iup_at]
      have wc : I2 149 (75 + 4 * n + 2) = c := by rw [g3, iup_ne (by omega), iup_at]
      have c5 : I2 1 5 = n + 1 := by rw [lo 1 (by decide) (by decide), h3, iup_at]
      have c1 : ∀ k, ¬ k = 5 → I2 1 k = I 1 k := fun k q => by rw [lo 1 (by decide) (by decide), h3, iup_ne (fun y => q y.2), iup_other (by decide), iup_other (by decide), iup_other (by decide), a1]
      have d3 : ∀ s, I2 3 s = if s = 5 + n then a else I 3 s := fun s => by
        rw [lo 3 (by decide) (by decide), h3, iup_other (by decide), iup_other (by decide), iup_other (by decide)]
        by_cases q : s = 5 + n
        · rw [q, iup_at, if_pos rfl]
        · rw [iup_ne (fun y => q y.2), if_neg q, hR.lo (by decide)]
      have d4 : ∀ s, I2 4 s = if s = 5 + n then b else I 4 s := fun s => by
        rw [lo 4 (by decide) (by decide), h3, iup_other (by decide), iup_other (by decide)]
        by_cases q : s = 5 + n
        · rw [q, iup_at, if_pos rfl]
        · rw [iup_ne (fun y => q y.2), if_neg q, iup_other (by decide), hR.lo (by decide)]
      have d5 : ∀ s, I2 5 s = if s = 5 + n then c else I 5 s := fun s => by
        rw [lo 5 (by decide) (by decide), h3, iup_other (by decide)]
        by_cases q : s = 5 + n
        · rw [q, iup_at, if_pos rfl]
        · rw [iup_ne (fun y => q y.2), if_neg q, iup_other (by decide), iup_other (by decide), hR.lo (by decide)]
      have co : ∀ k, (k = 2 ∨ k = 6 ∨ k = 7) → I2 k = I k := fun k q => by rw [lo k (by omega) (by omega), h3, iup_other (by omega), iup_other (by omega), iup_other (by omega), iup_other (by omega), hR.lo (by omega)]
      obtain ⟨⟨⟨q0, q1, q2, q3, q4, q5, q6⟩, qs, qp⟩, ⟨r0, r1, r2, r3, r4, r5⟩, rd, rs, rp⟩ := id hI.1
      have e0 := c1 0 (by decide)
      have e1 := c1 1 (by decide)
      have e2 := c1 2 (by decide)
      have e3 := c1 3 (by decide)
      have e4 := c1 4 (by decide)
      have sl : ∀ s, Slot1 I2 s → s = 5 + n ∨ (¬ s = 5 + n ∧ Slot1 I s) := fun s hs => by unfold Slot1 at *; omega
      have sr : ∀ s, Slot1 I s → 0 ≤ s ∧ s < 8 := fun s hs => by unfold Slot1 at hs; omega
      refine ⟨by rw [h2, g2], deed hI hR (I1 := I1) (fun k q => by rw [h3, iup_other (by omega), iup_other (by omega), iup_other (by omega), iup_other (by omega)]) (fun k q => lo k (by omega) (by omega)) (fun k _ => by rw [g3, iup_other (by decide), iup_other (by decide), iup_other (by decide), iup_other (by decide)]) (fun k k0 _ => by rw [g3, iup_ne (by omega), iup_ne (by omega), iup_ne (by omega), iup_ne (by omega)]) ?_⟩
      refine ⟨⟨⟨by omega, by omega, by omega, by omega, by omega, by omega, by rw [co 2 (by omega)]; exact q6⟩, fun s hs => ?_, fun x x0 x1 => ?_⟩, ⟨by rw [e0, w 0 (by decide) (by decide) (by omega)]; exact r0, by rw [e1, w 1 (by decide) (by decide) (by omega)]; exact r1, by rw [e2, w 2 (by decide) (by decide) (by omega)]; exact r2, by rw [e3, w 3 (by decide) (by decide) (by omega)]; exact r3, by rw [e4, w 4 (by decide) (by decide) (by omega)]; exact r4, by rw [c5, w5]⟩, fun k k0 k1 => ?_, fun s hs => ?_, fun x x0 x1 => ?_⟩
      · rw [d3, d4, d5]
        rcases sl s hs with q | ⟨q, qq⟩
        · rw [if_pos q, if_pos q, if_pos q]; omega
        · rw [if_neg q, if_neg q, if_neg q]; exact qs s qq
      · rw [e4] at x1
        rw [co 6 (by omega), co 7 (by omega), e0, e1]
        exact qp x x0 x1
      · rw [co 2 (by omega), w (6 + k) (by omega) (by omega) (by omega)]
        exact rd k k0 k1
      · rw [d3, d4, d5]
        rcases sl s hs with q | ⟨q, qq⟩
        · rw [if_pos q, if_pos q, if_pos q, show 55 + 4 * s = 75 + 4 * n by omega, wa, wb, wc]
          exact ⟨rfl, rfl, rfl⟩
        · have := sr s qq
          rw [if_neg q, if_neg q, if_neg q, w (55 + 4 * s) (by omega) (by omega) (by omega), w (55 + 4 * s + 1) (by omega) (by omega) (by omega), w (55 + 4 * s + 2) (by omega) (by omega) (by omega)]
          exact rs s qq
      · rw [e4] at x1
        rw [co 6 (by omega), co 7 (by omega), e0, w (55 + 4 * x + 3) (by omega) (by omega) (by omega)]
        exact rp x x0 x1
