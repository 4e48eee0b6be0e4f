/-! BOTH SIDES DO THE SAME DEED: depth, harbour, seed, tear, write -/
theorem J_depth {I I1 I2 : IM} {x y v z z2 : Int} (hI : Inv I) (h : (¬ inE (I 1 0) (I 1 1) x y ∧ z = -1000000001 ∧ I1 = I) ∨ (inE (I 1 0) (I 1 1) x y ∧ (v < 0 ∨ 9 < v) ∧ z = -1000000002 ∧ I1 = I) ∨ (inE (I 1 0) (I 1 1) x y ∧ ¬ (v < 0 ∨ 9 < v) ∧ z = I 2 (y * I 1 0 + x) ∧ ∃ Ia, RemC I Ia ∧ I1 = iup Ia 2 (y * I 1 0 + x) v)) (g : (¬ inE (I1 149 0) (I1 149 1) x y ∧ z2 = -1000000001 ∧ I2 = I1) ∨ (inE (I1 149 0) (I1 149 1) x y ∧ ¬ (0 ≤ v ∧ v ≤ 9) ∧ z2 = -1000000002 ∧ I2 = I1) ∨ (inE (I1 149 0) (I1 149 1) x y ∧ (0 ≤ v ∧ v ≤ 9) ∧ z2 = I1 149 (6 + y * I1 149 0 + x) ∧ I2 = iup (remM I1) 149 (6 + y * I1 149 0 + x) v)) : z = z2 ∧ Inv I2 := by
  have w0 := hI.1.w0
  have h1' := hI.1.h1
  have hwh := hI.1.wh
  rcases h with ⟨h1, h2, h3⟩ | ⟨h0, h1, h2, h3⟩ | ⟨h0, h1, h2, Ia, hR, h3⟩
  · rw [h3, w0, h1'] at g
    rcases g with ⟨g1, g2, g3⟩ | ⟨g1, -⟩ | ⟨g1, -⟩
    · rw [g3]; exact ⟨by rw [h2, g2], hI⟩
    · exact absurd g1 h1
    · exact absurd g1 h1
  · rw [h3, w0, h1'] at g
    rcases g with ⟨g1, -⟩ | ⟨g0, g1, g2, g3⟩ | ⟨g0, g1, -⟩
    · exact absurd h0 g1
    · rw [g3]; exact ⟨by rw [h2, g2], hI⟩
    · omega
  · obtain ⟨b8, b9⟩ := RemC.both hI hR
    have i9 : I1 149 = I 149 := by rw [h3, iup_other (by decide)]; exact b9
    have i8 : I1 148 = I 148 := by rw [h3, iup_other (by decide)]; exact b8
    rw [i9, w0, h1'] at g
    have hcb := cellB (W := I 1 0) (H := I 1 1) (x := x) (y := y) ⟨h0.1, h0.2.1⟩ ⟨h0.2.2.1, h0.2.2.2⟩
    rcases g with ⟨g1, -⟩ | ⟨g0, g1, -⟩ | ⟨g0, g1, g2, g3⟩
    · exact absurd h0 g1
    · omega
    · have e6 : 6 + y * I 1 0 + x = 6 + (y * I 1 0 + x) := by omega
      rw [e6] at g2 g3
      generalize hp : y * I 1 0 + x = p at *
      have hK : 0 ≤ I1 148 1 ∧ I1 148 1 ≤ 16 := by rw [i8]; have := hI.2.1; unfold Hst at this; omega
      have lo : ∀ c, c < 148 → I2 c = I1 c := fun c hc => by rw [g3, iup_other (by omega), remM_o (by omega) (by omega)]
      have w : ∀ b, b < 90 → ¬ b = 6 + p → I2 149 b = I 149 b := fun b b0 b1 => by rw [g3, iup_ne (by omega), remM_lo hK (Or.inl b0), i9]
      have cc : ∀ c, c ≤ 7 → ¬ c = 2 → I2 c = I c := fun c q0 q1 => by rw [lo c (by omega), h3, iup_other q1, hR.lo q0]
      refine ⟨by rw [h2, g2]; exact hI.1.2.2.1 p (by omega) (by omega), deed hI hR (I1 := I1) (fun c hc => by rw [h3, iup_other (by omega)]) (fun c hc => by rw [g3, iup_other (by omega), remM_o (by omega) (by omega)]) (fun b _ => by rw [g3, iup_other (by omega)]) (fun b b0 _ => by rw [g3, iup_ne (by omega)]) ?_⟩
      refine Cur_sc hI.1 (fun c q0 q1 => cc c q1 (by omega)) (fun b _ _ => by rw [cc 1 (by decide) (by decide)]) (fun b b0 _ _ b1 => w b b0 (by omega)) (by rw [cc 1 (by decide) (by decide), w 2 (by decide) (by omega)]; exact hI.1.2.1.2.2.1) (by rw [cc 1 (by decide) (by decide), w 3 (by decide) (by omega)]; exact hI.1.2.1.2.2.2.1) (by rw [cc 1 (by decide) (by decide)]; exact hI.1.1.1.2.2.1) (by rw [cc 1 (by decide) (by decide)]; exact hI.1.1.1.2.2.2.1) (fun k k0 k1 => ?_)
      by_cases hk : k = p
      · rw [lo 2 (by omega), h3, hk, iup_at, g3, iup_at]
        exact ⟨g1, rfl⟩
      · rw [lo 2 (by omega), h3, iup_ne (fun y => hk y.2), hR.lo (by omega), w (6 + k) (by omega) (by omega)]
        exact ⟨hI.1.1.1.2.2.2.2.2.2 k k0 k1, hI.1.2.2.1 k k0 k1⟩
theorem J_harbour {I I1 I2 : IM} {w h z z2 : Int} (hI : Inv I) (a : ((w < 2 ∨ 7 < w) ∨ (h < 2 ∨ 7 < h)) ∧ z = -1000000002 ∧ I1 = I ∨ (¬ ((w < 2 ∨ 7 < w) ∨ (h < 2 ∨ 7 < h)) ∧ z = I 1 4 ∧ ∃ Ia, RemC I Ia ∧ LAY Ia 1 w h I1)) (g : (¬ ((2 ≤ w ∧ w ≤ 7) ∧ (2 ≤ h ∧ h ≤ 7)) ∧ z2 = -1000000002 ∧ I2 = I1) ∨ (((2 ≤ w ∧ w ≤ 7) ∧ (2 ≤ h ∧ h ≤ 7)) ∧ z2 = I1 149 4 ∧ (Ex1 149 I2 (remM I1) ∧ (I2 149 0 = w ∧ I2 149 1 = h ∧ I2 149 4 = 0 ∧ I2 149 5 = 0) ∧ (∀ b, 6 ≤ b → b < 6 + 49 → I2 149 b = 5) ∧ ∀ b, ¬ b = 0 → ¬ b = 1 → ¬ b = 4 → ¬ b = 5 → ¬ (6 ≤ b ∧ b < 55) → I2 149 b = remM I1 149 b))) : z = z2 ∧ Inv I2 := by
  rcases a with ⟨h1, h2, h3⟩ | ⟨h1, h2, Ia, hR, ⟨l0, l1, l4, l5⟩, l6, l7, l8⟩
  · rcases g with ⟨g1, g2, g3⟩ | ⟨g1, -⟩
    · rw [g3, h3]; exact ⟨by rw [h2, g2], hI⟩
    · omega
  · rcases g with ⟨g1, -⟩ | ⟨g1, g2, g3, ⟨m0, m1, m4, m5⟩, m6, m7⟩
    · omega
    · obtain ⟨b8, b9⟩ := RemC.both hI hR
      have i9 : I1 149 = I 149 := by rw [l8 149 (by decide) (by decide)]; exact b9
      have i8 : I1 148 = I 148 := by rw [l8 148 (by decide) (by decide)]; exact b8
      have hK : 0 ≤ I1 148 1 ∧ I1 148 1 ≤ 16 := by rw [i8]; have := hI.2.1; unfold Hst at this; omega
      have lo : ∀ c, c < 148 → I2 c = I1 c := fun c hc => by rw [g3 c (by omega), remM_o (by omega) (by omega)]
      have c1 : ∀ b, ¬ b = 0 → ¬ b = 1 → ¬ b = 4 → ¬ b = 5 → I2 1 b = I 1 b := fun b b0 b1 b4 b5 => by rw [lo 1 (by omega), l6 b b0 b1 b4 b5, hR.lo (by omega)]
      have w2 : I2 149 2 = I 149 2 := by rw [m7 2 (by decide) (by decide) (by decide) (by decide) (by decide), remM_lo hK (Or.inl (by decide)), i9]
      have w3 : I2 149 3 = I 149 3 := by rw [m7 3 (by decide) (by decide) (by decide) (by decide) (by decide), remM_lo hK (Or.inl (by decide)), i9]
      have k0' : I2 1 0 = w := by rw [lo 1 (by omega), l0]
      have k1' : I2 1 1 = h := by rw [lo 1 (by omega), l1]
      have k4' : I2 1 4 = 0 := by rw [lo 1 (by omega), l4]
      have k5' : I2 1 5 = 0 := by rw [lo 1 (by omega), l5]
      have k2' := c1 2 (by decide) (by decide) (by decide) (by decide)
      have k3' := c1 3 (by decide) (by decide) (by decide) (by decide)
      have d2 : ∀ k, 0 ≤ k → k < 49 → I2 2 k = 5 := fun k q0 q1 => by rw [lo 2 (by omega)]; exact l7 k q0 q1
      refine ⟨by rw [h2, g2, i9]; exact hI.1.n4.symm, deed hI hR (I1 := I1) (fun c hc => l8 c (by omega) (by omega)) (fun c hc => by rw [g3 c (by omega), remM_o (by omega) (by omega)]) (fun b _ => by rw [g3 148 (by decide)]) (fun b b0 _ => m7 b (by omega) (by omega) (by omega) (by omega) (by omega)) ?_⟩
      refine ⟨⟨⟨by omega, by omega, by rw [k2']; exact hI.1.1.1.2.2.1, by rw [k3']; exact hI.1.1.1.2.2.2.1, by omega, by omega, fun k q0 q1 => by rw [d2 k q0 q1]; omega⟩, fun s hs => ?_, fun a q0 q1 => by omega⟩, ⟨by rw [k0', m0], by rw [k1', m1], by rw [k2', w2]; exact hI.1.2.1.2.2.1, by rw [k3', w3]; exact hI.1.2.1.2.2.2.1, by rw [k4', m4], by rw [k5', m5]⟩, fun k q0 q1 => by rw [d2 k q0 q1, m6 (6 + k) (by omega) (by omega)], fun s hs => ?_, fun a q0 q1 => by omega⟩
      · unfold Slot1 at hs; omega
      · unfold Slot1 at hs; omega
