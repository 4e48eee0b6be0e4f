/-! BOTH SIDES DO THE SAME DEED: tide, winds, depth -/
/-- only numbers that no ship and no edge hangs on are other -/
theorem Cur_sc {I I2 : IM} (h : Cur I) (hc : ∀ c, 3 ≤ c → c ≤ 7 → I2 c = I c) (h1 : ∀ b, ¬ b = 2 → ¬ b = 3 → I2 1 b = I 1 b) (hw : ∀ b, b < 90 → ¬ b = 2 → ¬ b = 3 → ¬ (6 ≤ b ∧ b < 55) → I2 149 b = I 149 b) (q2 : I2 1 2 = I2 149 2) (q3 : I2 1 3 = I2 149 3) (r2 : -3 ≤ I2 1 2 ∧ I2 1 2 ≤ 3) (r3 : 1 ≤ I2 1 3 ∧ I2 1 3 ≤ 255) (hd : ∀ k, 0 ≤ k → k < 49 → (0 ≤ I2 2 k ∧ I2 2 k ≤ 9) ∧ I2 2 k = I2 149 (6 + k)) : Cur I2 := by
  obtain ⟨⟨⟨a0, a1, a2, a3, a4, a5, a6⟩, b, c⟩, ⟨p0, p1, p2, p3, p4, p5⟩, s, t, u⟩ := h
  have e0 := h1 0 (by decide) (by decide)
  have e1 := h1 1 (by decide) (by decide)
  have e4 := h1 4 (by decide) (by decide)
  have e5 := h1 5 (by decide) (by decide)
  refine ⟨⟨⟨by rw [e0]; exact a0, by rw [e1]; exact a1, r2, r3, by rw [e4]; exact a4, by rw [e5]; exact a5, fun k k0 k1 => (hd k k0 k1).1⟩, fun x hx => ?_, fun a g0 g1 => ?_⟩, ⟨by rw [e0, hw 0 (by decide) (by decide) (by decide) (by decide)]; exact p0, by rw [e1, hw 1 (by decide) (by decide) (by decide) (by decide)]; exact p1, q2, q3, by rw [e4, hw 4 (by decide) (by decide) (by decide) (by decide)]; exact p4, by rw [e5, hw 5 (by decide) (by decide) (by decide) (by decide)]; exact p5⟩, fun k k0 k1 => (hd k k0 k1).2, fun x hx => ?_, fun a g0 g1 => ?_⟩
  · have hx2 : Slot1 I x := by unfold Slot1 at *; rw [e4, e5] at hx; exact hx
    rw [hc 3 (by decide) (by decide), hc 4 (by decide) (by decide), hc 5 (by decide) (by decide)]
    exact b x hx2
  · rw [e4] at g1
    rw [hc 6 (by decide) (by decide), hc 7 (by decide) (by decide), e0, e1]
    exact c a g0 g1
  · have hx2 : Slot1 I x := by unfold Slot1 at *; rw [e4, e5] at hx; exact hx
    have hxr : 0 ≤ x ∧ x < 8 := by unfold Slot1 at hx2; omega
    rw [hc 3 (by decide) (by decide), hc 4 (by decide) (by decide), hc 5 (by decide) (by decide), hw (55 + 4 * x) (by omega) (by omega) (by omega) (by omega), hw (55 + 4 * x + 1) (by omega) (by omega) (by omega) (by omega), hw (55 + 4 * x + 2) (by omega) (by omega) (by omega) (by omega)]
    exact t x hx2
  · rw [e4] at g1
    rw [hc 6 (by decide) (by decide), hc 7 (by decide) (by decide), e0, hw (55 + 4 * a + 3) (by omega) (by omega) (by omega) (by omega)]
    exact u a g0 g1
theorem RemC.both {I Ia : IM} (h : Inv I) (hr : RemC I Ia) : Ia 148 = I 148 ∧ Ia 149 = I 149 := ⟨hr.hi h.2.1.1 (by omega), hr.hi h.2.1.1 (by omega)⟩
theorem J_tide {I I1 I2 : IM} {v z z2 : Int} (hI : Inv I) (h : ((v < -3 ∨ 3 < v) ∧ z = -1000000002 ∧ I1 = I) ∨ (¬ (v < -3 ∨ 3 < v) ∧ z = I 1 2 ∧ ∃ Ia, RemC I Ia ∧ I1 = iup Ia 1 2 v)) (g : (¬ (-3 ≤ v ∧ v ≤ 3) ∧ z2 = -1000000002 ∧ I2 = I1) ∨ ((-3 ≤ v ∧ v ≤ 3) ∧ z2 = I1 149 2 ∧ I2 = iup (remM I1) 149 2 v)) : z = z2 ∧ Inv I2 := by
  rcases h with ⟨h1, h2, h3⟩ | ⟨h1, h2, Ia, hR, h3⟩
  · rcases g with ⟨g1, g2, g3⟩ | ⟨g1, -⟩
    · rw [g3, h3]; exact ⟨by rw [h2, g2], hI⟩
    · omega
  · rcases g with ⟨g1, -⟩ | ⟨g1, g2, g3⟩
    · omega
    · obtain ⟨b8, b9⟩ := RemC.both hI hR
      have i9 : I1 149 = I 149 := by rw [h3, iup_other (by decide)]; exact b9
      have i8 : I1 148 = I 148 := by rw [h3, iup_other (by decide)]; exact b8
      have hK : 0 ≤ I1 148 1 ∧ I1 148 1 ≤ 16 := by rw [i8]; have := hI.2.1; unfold Hst at this; omega
      have lo : ∀ c, c < 148 → I2 c = I1 c := fun c hc => by rw [g3, iup_other (by omega), remM_o (by omega) (by omega)]
      have w : ∀ b, b < 90 → ¬ b = 2 → I2 149 b = I 149 b := fun b b0 b1 => by rw [g3, iup_ne (by omega), remM_lo hK (Or.inl b0), i9]
      have w2 : I2 149 2 = v := by rw [g3, iup_at]
      have c1 : ∀ b, ¬ b = 2 → I2 1 b = I 1 b := fun b hb => by rw [lo 1 (by omega), h3, iup_ne (fun y => hb y.2), hR.lo (by omega)]
      have c2 : I2 1 2 = v := by rw [lo 1 (by omega), h3, iup_at]
      have cc : ∀ c, 2 ≤ c → c ≤ 7 → I2 c = I c := fun c q0 q1 => by rw [lo c (by omega), h3, iup_other (by omega), hR.lo (by omega)]
      refine ⟨by rw [h2, g2, i9]; exact hI.1.2.1.2.2.1, deed hI hR (I1 := I1) (fun c hc => by rw [h3, iup_other (by omega)]) (fun c hc => by rw [g3, iup_other (by omega), remM_o (by omega) (by omega)]) (fun b _ => by rw [g3, iup_other (by omega)]) (fun b b0 _ => by rw [g3, iup_ne (by omega)]) ?_⟩
      refine Cur_sc hI.1 (fun c q0 q1 => cc c (by omega) q1) (fun b b0 _ => c1 b b0) (fun b b0 b1 _ _ => w b b0 b1) (by rw [c2, w2]) (by rw [c1 3 (by decide), w 3 (by decide) (by decide)]; exact hI.1.2.1.2.2.2.1) (by rw [c2]; omega) (by rw [c1 3 (by decide)]; exact hI.1.1.1.2.2.2.1) (fun k k0 k1 => ?_)
      rw [cc 2 (by omega) (by omega), w (6 + k) (by omega) (by omega)]
      exact ⟨hI.1.1.1.2.2.2.2.2.2 k k0 k1, hI.1.2.2.1 k k0 k1⟩
theorem J_winds {I I1 I2 : IM} {v z z2 : Int} (hI : Inv I) (h : ((v < 1 ∨ 255 < v) ∧ z = -1000000002 ∧ I1 = I) ∨ (¬ (v < 1 ∨ 255 < v) ∧ z = I 1 3 ∧ ∃ Ia, RemC I Ia ∧ I1 = iup Ia 1 3 v)) (g : (¬ (1 ≤ v ∧ v ≤ 255) ∧ z2 = -1000000002 ∧ I2 = I1) ∨ ((1 ≤ v ∧ v ≤ 255) ∧ z2 = I1 149 3 ∧ I2 = iup (remM I1) 149 3 v)) : z = z2 ∧ Inv I2 := by
  rcases h with ⟨h1, h2, h3⟩ | ⟨h1, h2, Ia, hR, h3⟩
  · rcases g with ⟨g1, g2, g3⟩ | ⟨g1, -⟩
    · rw [g3, h3]; exact ⟨by rw [h2, g2], hI⟩
    · omega
  · rcases g with ⟨g1, -⟩ | ⟨g1, g2, g3⟩
    · omega
    · obtain ⟨b8, b9⟩ := RemC.both hI hR
      have i9 : I1 149 = I 149 := by rw [h3, iup_other (by decide)]; exact b9
      have i8 : I1 148 = I 148 := by rw [h3, iup_other (by decide)]; exact b8
      have hK : 0 ≤ I1 148 1 ∧ I1 148 1 ≤ 16 := by rw [i8]; have := hI.2.1; unfold Hst at this; omega
      have lo : ∀ c, c < 148 → I2 c = I1 c := fun c hc => by rw [g3, iup_other (by omega), remM_o (by omega) (by omega)]
      have w : ∀ b, b < 90 → ¬ b = 3 → I2 149 b = I 149 b := fun b b0 b1 => by rw [g3, iup_ne (by omega), remM_lo hK (Or.inl b0), i9]
      have w2 : I2 149 3 = v := by rw [g3, iup_at]
      have c1 : ∀ b, ¬ b = 3 → I2 1 b = I 1 b := fun b hb => by rw [lo 1 (by omega), h3, iup_ne (fun y => hb y.2), hR.lo (by omega)]
      have c2 : I2 1 3 = v := by rw [lo 1 (by omega), h3, iup_at]
      have cc : ∀ c, 2 ≤ c → c ≤ 7 → I2 c = I c := fun c q0 q1 => by rw [lo c (by omega), h3, iup_other (by omega), hR.lo (by omega)]
      refine ⟨by rw [h2, g2, i9]; exact hI.1.2.1.2.2.2.1, deed hI hR (I1 := I1) (fun c hc => by rw [h3, iup_other (by omega)]) (fun c hc => by rw [g3, iup_other (by omega), remM_o (by omega) (by omega)]) (fun b _ => by rw [g3, iup_other (by omega)]) (fun b b0 _ => by rw [g3, iup_ne (by omega)]) ?_⟩
      refine Cur_sc hI.1 (fun c q0 q1 => cc c (by omega) q1) (fun b _ b0 => c1 b b0) (fun b b0 _ b1 _ => w b b0 b1) (by rw [c1 2 (by decide), w 2 (by decide) (by decide)]; exact hI.1.2.1.2.2.1) (by rw [c2, w2]) (by rw [c1 2 (by decide)]; exact hI.1.1.1.2.2.1) (by rw [c2]; omega) (fun k k0 k1 => ?_)
      rw [cc 2 (by omega) (by omega), w (6 + k) (by omega) (by omega)]
      exact ⟨hI.1.1.1.2.2.2.2.2.2 k k0 k1, hI.1.2.2.1 k k0 k1⟩
