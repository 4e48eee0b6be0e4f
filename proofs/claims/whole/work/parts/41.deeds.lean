/-! DEEDS: what stays of the invariant -/
theorem HB_tr {I I2 : IM} {o o2 : Nat} {b b2 : Int} (h : HB I o b) (h0 : ∀ k, 0 ≤ k → k < 6 → I2 o2 k = I o k) (h1 : ∀ k, 0 ≤ k → k < 49 → I2 (o2 + 1) k = I (o + 1) k) (h2 : ∀ (j : Nat) k, 2 ≤ j → j ≤ 6 → 0 ≤ k → k < 8 → I2 (o2 + j) k = I (o + j) k) (hw : ∀ k, 0 ≤ k → k < 90 → I2 149 (b2 + k) = I 149 (b + k)) : HB I2 o2 b2 := by
  obtain ⟨⟨⟨v0, v1, v2, v3, v4, v5, v6⟩, vs, va⟩, r0, r1, r2, r3⟩ := h
  have e0 := h0 0 (by decide) (by decide)
  have e1 := h0 1 (by decide) (by decide)
  have e2 := h0 2 (by decide) (by decide)
  have e3 := h0 3 (by decide) (by decide)
  have e4 := h0 4 (by decide) (by decide)
  have e5 := h0 5 (by decide) (by decide)
  refine ⟨⟨⟨by rw [e0]; exact v0, by rw [e1]; exact v1, by rw [e2]; exact v2, by rw [e3]; exact v3, by rw [e4]; exact v4, by rw [e5]; exact v5, fun k k0 k1 => by rw [h1 k k0 k1]; exact v6 k k0 k1⟩, fun s hs => ?_, fun a a0 a1 => ?_⟩, fun k k0 k1 => ?_, fun k k0 k1 => ?_, fun s hs => ?_, fun a a0 a1 => ?_⟩
  · rw [e4, e5] at hs
    have hb : 0 ≤ s ∧ s < 8 := by omega
    rw [h2 2 s (by decide) (by decide) hb.1 hb.2, h2 3 s (by decide) (by decide) hb.1 hb.2, h2 4 s (by decide) (by decide) hb.1 hb.2]
    exact vs s hs
  · rw [e4] at a1
    rw [h2 5 a (by decide) (by decide) a0 (by omega), h2 6 a (by decide) (by decide) a0 (by omega), e0, e1]
    exact va a a0 a1
  · rw [h0 k k0 k1, hw k k0 (by omega)]
    exact r0 k k0 k1
  · rw [h1 k k0 k1, show b2 + 6 + k = b2 + (6 + k) by omega, hw (6 + k) (by omega) (by omega), show b + (6 + k) = b + 6 + k by omega]
    exact r1 k k0 k1
  · rw [e4, e5] at hs
    have hb : 0 ≤ s ∧ s < 8 := by omega
    rw [h2 2 s (by decide) (by decide) hb.1 hb.2, h2 3 s (by decide) (by decide) hb.1 hb.2, h2 4 s (by decide) (by decide) hb.1 hb.2]
    rw [show b2 + 55 + 4 * s = b2 + (55 + 4 * s) by omega, show b2 + (55 + 4 * s) + 1 = b2 + (55 + 4 * s + 1) by omega, show b2 + (55 + 4 * s) + 2 = b2 + (55 + 4 * s + 2) by omega, hw (55 + 4 * s) (by omega) (by omega), hw (55 + 4 * s + 1) (by omega) (by omega), hw (55 + 4 * s + 2) (by omega) (by omega)]
    have q := r2 s hs
    rw [show b + 55 + 4 * s = b + (55 + 4 * s) by omega, show b + (55 + 4 * s) + 1 = b + (55 + 4 * s + 1) by omega, show b + (55 + 4 * s) + 2 = b + (55 + 4 * s + 2) by omega] at q
    exact q
  · rw [e4] at a1
    rw [h2 5 a (by decide) (by decide) a0 (by omega), h2 6 a (by decide) (by decide) a0 (by omega), e0, show b2 + 55 + 4 * a + 3 = b2 + (55 + 4 * a + 3) by omega, hw (55 + 4 * a + 3) (by omega) (by omega), show b + (55 + 4 * a + 3) = b + 55 + 4 * a + 3 by omega]
    exact r3 a a0 a1
/-- the seven cells from o on stay -/
theorem HB_same {I I2 : IM} {o : Nat} {b b2 : Int} (h : HB I o b) (hc : ∀ j : Nat, j ≤ 6 → I2 (o + j) = I (o + j)) (hw : ∀ k, 0 ≤ k → k < 90 → I2 149 (b2 + k) = I 149 (b + k)) : HB I2 o b2 :=
  HB_tr h (fun k _ _ => by have := hc 0 (by decide); simp only [Nat.add_zero] at this; rw [this]) (fun k _ _ => by rw [hc 1 (by decide)]) (fun j k _ j1 _ _ => by rw [hc j j1]) hw
theorem remW_row {K : Int} {w : Int → Int} (hK : 0 ≤ K ∧ K ≤ 16) {k : Int} (k0 : 0 ≤ k) (k1 : k < 90) : remW K w (90 * min (K + 1) 16 + k) = w k := by
  unfold remW
  by_cases h : K < 16
  · rw [if_pos h, if_pos (by omega)]
    congr 1; omega
  · rw [if_neg h, if_neg (by omega), if_pos (by omega)]
    congr 1; omega
theorem remW_old {K j : Int} {w : Int → Int} (hK : 0 ≤ K ∧ K ≤ 16) (hj : 1 ≤ j) (hj2 : j + 1 ≤ min (K + 1) 16) {k : Int} (k0 : 0 ≤ k) (k1 : k < 90) : remW K w (90 * (min (K + 1) 16 - (j + 1) + 1) + k) = w (90 * (K - j + 1) + k) := by
  unfold remW
  by_cases h : K < 16
  · rw [if_pos h, if_neg (by omega)]
    congr 1; omega
  · rw [if_neg h, if_pos (by omega)]
    congr 1; omega
theorem remW_lo {K : Int} {w : Int → Int} (hK : 0 ≤ K ∧ K ≤ 16) {b : Int} (h : b < 90 ∨ 1530 ≤ b) : remW K w b = w b := by
  unfold remW
  by_cases hk : K < 16
  · rw [if_pos hk, if_neg (by omega)]
  · rw [if_neg hk, if_neg (by omega), if_neg (by omega)]
theorem Hst_rem {I I2 : IM} (h : Hst I) (hcur : Cur I) (c1 : I2 8 1 = (I 8 1 + 1) % 16) (c2 : I2 8 2 = min (I 8 2 + 1) 16) (c3 : I2 148 1 = min (I 148 1 + 1) 16)
    (hn0 : ∀ k, 0 ≤ k → k < 6 → I2 (10 + 7 * (I 8 1).toNat) k = I 1 k) (hn1 : ∀ k, 0 ≤ k → k < 49 → I2 (10 + 7 * (I 8 1).toNat + 1) k = I 2 k) (hn2 : ∀ (j : Nat) k, 2 ≤ j → j ≤ 6 → 0 ≤ k → k < 8 → I2 (10 + 7 * (I 8 1).toNat + j) k = I (1 + j) k)
    (ho : ∀ c, 10 ≤ c → c < 122 → (c < 10 + 7 * (I 8 1).toNat ∨ 10 + 7 * (I 8 1).toNat + 6 < c) → I2 c = I c) (hw : ∀ b, 90 ≤ b → b < 1530 → I2 149 b = remW (I 148 1) (I 149) b) : Hst I2 := by
  obtain ⟨n1, n2, n3, n4⟩ := h
  refine ⟨by omega, by omega, by omega, fun j j0 j1 => ?_⟩
  rw [c2] at j1
  rw [c1, c2]
  by_cases hj : j = 1
  · subst hj
    have e : ((I 8 1 + 1) % 16 - 1) % 16 = I 8 1 := by omega
    rw [e, show min (I 8 2 + 1) 16 - 1 + 1 = min (I 8 2 + 1) 16 by omega]
    refine HB_tr (HB_0.mpr hcur) hn0 hn1 (fun j k q0 q1 q2 q3 => hn2 j k q0 q1 q2 q3) (fun k k0 k1 => ?_)
    rw [hw _ (by omega) (by omega), n3, remW_row (by omega) k0 k1, Int.zero_add]
  · have e : ((I 8 1 + 1) % 16 - j) % 16 = (I 8 1 - (j - 1)) % 16 := by omega
    rw [e]
    have old := n4 (j - 1) (by omega) (by omega)
    refine HB_same old (fun i hi => ho _ (by omega) (by omega) (by omega)) (fun k k0 k1 => ?_)
    have r := remW_old (K := I 148 1) (w := I 149) (j := j - 1) (by omega) (by omega) (by omega) k0 k1
    rw [hw _ (by omega) (by omega), n3]
    rw [show j - 1 + 1 = j by omega] at r
    exact r
/-- what is neither a Harbour's nor the ring's nor a row's stays -/
def Rst (I2 I : IM) : Prop := I2 0 = I 0 ∧ (∀ c, 128 ≤ c → c < 148 → I2 c = I c) ∧ (∀ b, ¬ b = 1 → ¬ b = 11 → I2 148 b = I 148 b) ∧ (∀ b, 1530 ≤ b → b < 1710 → I2 149 b = I 149 b) ∧ I2 150 = I 150 ∧ I2 151 = I 151 ∧ I2 152 = I 152
theorem Img_rst {I I2 : IM} (h : Img I) (hr : Rst I2 I) : Img I2 := by
  obtain ⟨-, r1, r2, r3, r4, r5, r6⟩ := hr
  have e2 := r2 2 (by decide) (by decide)
  refine ⟨by rw [e2]; exact h.1, fun i hi => ?_⟩
  obtain ⟨q1, q2⟩ := h.2 i hi
  rw [e2, r1 (132 + 8 * i) (by omega) (by omega), r4]
  refine ⟨q1, fun hb => ?_⟩
  obtain ⟨p1, p2⟩ := q2 hb
  exact ⟨HB_same p1 (fun j hj => r1 _ (by omega) (by omega)) (fun k k0 k1 => r3 _ (by omega) (by omega)), p2⟩
theorem Sd_rst {I I2 : IM} (h : Sd I) (hr : Rst I2 I) : Sd I2 := by
  obtain ⟨r0, r1, r2, r3, r4, r5, r6⟩ := hr
  unfold Sd
  rw [r0, r2 3 (by decide) (by decide)]
  exact h
theorem Bk_rst {I I2 : IM} (h : Bk I) (hr : Rst I2 I) : Bk I2 := by
  obtain ⟨r0, r1, r2, r3, r4, r5, r6⟩ := hr
  unfold Bk MBk
  rw [r1 128 (by omega) (by omega), r1 129 (by omega) (by omega), r1 130 (by omega) (by omega), r2 7 (by decide) (by decide), r5, r6]
  exact h
theorem Inv_deed {I I2 : IM} (h : Inv I) (hc : Cur I2) (hh : Hst I2) (hr : Rst I2 I) : Inv I2 := ⟨hc, hh, Img_rst h.2.2.1 hr, Sd_rst h.2.2.2.1 hr, Bk_rst h.2.2.2.2 hr⟩
