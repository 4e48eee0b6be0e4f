/-! BOTH SIDES DO THE SAME DEED: a ship comes to anchor -/
/-- the class's harbour A and the reference's row R, which has q more that wait before the class's first -/
def PQ (A R : IM) (q : Int) : Prop := CW A ∧ (A 1 0 = R 149 0 ∧ A 1 1 = R 149 1 ∧ A 1 2 = R 149 2 ∧ A 1 3 = R 149 3 ∧ A 1 4 = R 149 4 ∧ A 1 5 + q = R 149 5) ∧ (∀ k, 0 ≤ k → k < 49 → A 2 k = R 149 (6 + k)) ∧ (∀ s, 0 ≤ s → s < A 1 4 → A 3 s = R 149 (55 + 4 * s) ∧ A 4 s = R 149 (55 + 4 * s + 1) ∧ A 5 s = R 149 (55 + 4 * s + 2)) ∧ (∀ s, 5 ≤ s → s < 5 + A 1 5 → A 3 s = R 149 (55 + 4 * (s + q)) ∧ A 4 s = R 149 (55 + 4 * (s + q) + 1) ∧ A 5 s = R 149 (55 + 4 * (s + q) + 2)) ∧ ∀ a, 0 ≤ a → a < A 1 4 → A 7 a * A 1 0 + A 6 a = R 149 (55 + 4 * a + 3)
theorem PQ_cur {I : IM} : PQ I I 0 ↔ Cur I := by
  constructor
  · rintro ⟨h0, ⟨h1, h2, h3, h4, h5, h6⟩, hd, ha, hw, hp⟩
    refine ⟨h0, ⟨h1, h2, h3, h4, h5, by omega⟩, hd, fun s hs => ?_, hp⟩
    rcases hs with hs | hs
    · exact ha s hs.1 hs.2
    · have := hw s hs.1 hs.2
      rw [Int.add_zero] at this
      exact this
  · rintro ⟨h0, ⟨h1, h2, h3, h4, h5, h6⟩, hd, hs, hp⟩
    refine ⟨h0, ⟨h1, h2, h3, h4, h5, by omega⟩, hd, fun s s0 s1 => hs s (Or.inl ⟨s0, s1⟩), fun s s0 s1 => ?_, hp⟩
    rw [Int.add_zero]
    exact hs s (Or.inr ⟨s0, s1⟩)
theorem PQ_cong {A R A2 R2 : IM} {q : Int} (h : PQ A R q) (h0 : 0 ≤ q) (h3 : A 1 5 + q ≤ 3) (hA : ∀ c, 1 ≤ c → c ≤ 7 → A2 c = A c) (hR : ∀ b, b < 90 → R2 149 b = R 149 b) : PQ A2 R2 q := by
  obtain ⟨q0, ⟨q1, q2, q3, q4, q5, q6⟩, hd, ha, hw, hp⟩ := h
  have c1 := hA 1 (by omega) (by omega)
  have c2 := hA 2 (by omega) (by omega)
  have c3 := hA 3 (by omega) (by omega)
  have c4 := hA 4 (by omega) (by omega)
  have c5 := hA 5 (by omega) (by omega)
  have c6 := hA 6 (by omega) (by omega)
  have c7 := hA 7 (by omega) (by omega)
  have b4 : A 1 4 ≤ 5 := q0.1.2.2.2.2.1.2
  unfold PQ CW CI0 CI1 CI2 Slot1
  rw [c1, c2, c3, c4, c5, c6, c7]
  refine ⟨q0, ⟨by rw [hR 0 (by omega)]; exact q1, by rw [hR 1 (by omega)]; exact q2, by rw [hR 2 (by omega)]; exact q3, by rw [hR 3 (by omega)]; exact q4, by rw [hR 4 (by omega)]; exact q5, by rw [hR 5 (by omega)]; exact q6⟩, fun k k0 k1 => by rw [hR (6 + k) (by omega)]; exact hd k k0 k1, fun s s0 s1 => ?_, fun s s0 s1 => ?_, fun a a0 a1 => by rw [hR _ (by omega)]; exact hp a a0 a1⟩
  · rw [hR (55 + 4 * s) (by omega), hR (55 + 4 * s + 1) (by omega), hR (55 + 4 * s + 2) (by omega)]
    exact ha s s0 s1
  · rw [hR (55 + 4 * (s + q)) (by omega), hR (55 + 4 * (s + q) + 1) (by omega), hR (55 + 4 * (s + q) + 2) (by omega)]
    exact hw s s0 s1
def brg (A : IM) (k p : Int) : IM := iup (iup (iup (cpS A (5 + k) (A 1 4)) 6 (A 1 4) (p % 8)) 7 (A 1 4) (p / 8)) 1 4 (A 1 4 + 1)
theorem toAnch_brg (A : IM) (k p : Int) : toAnch A k p = dropW (brg A k p) k := rfl
theorem brg_14 (A : IM) (k p : Int) : brg A k p 1 4 = A 1 4 + 1 := iup_at _ _ _ _
theorem brg_1 {A : IM} {k p b : Int} (h : ¬ b = 4) : brg A k p 1 b = A 1 b := by
  unfold brg cpS
  rw [iup_ne (fun y => h y.2), iup_other (by decide), iup_other (by decide), iup_other (by decide), iup_other (by decide), iup_other (by decide), iup_other (by decide), iup_other (by decide)]
theorem brg_o {A : IM} {k p : Int} {c : Nat} (h : 7 < c ∨ c < 1 ∨ c = 2) : brg A k p c = A c := by
  unfold brg cpS
  rw [iup_other (by omega), iup_other (by omega), iup_other (by omega), iup_other (by omega), iup_other (by omega), iup_other (by omega), iup_other (by omega), iup_other (by omega)]
theorem brg_3 (A : IM) (k p s : Int) : brg A k p 3 s = if s = A 1 4 then A 3 (5 + k) else A 3 s := by
  unfold brg cpS
  by_cases h : s = A 1 4
  · simp [iup, h]
  · simp [iup, h]
theorem brg_4 (A : IM) (k p s : Int) : brg A k p 4 s = if s = A 1 4 then A 4 (5 + k) else A 4 s := by
  unfold brg cpS
  by_cases h : s = A 1 4
  · simp [iup, h]
  · simp [iup, h]
theorem brg_5 (A : IM) (k p s : Int) : brg A k p 5 s = if s = A 1 4 then A 5 (5 + k) else A 5 s := by
  unfold brg cpS
  by_cases h : s = A 1 4
  · simp [iup, h]
  · simp [iup, h]
theorem brg_6 (A : IM) (k p s : Int) : brg A k p 6 s = if s = A 1 4 then p % 8 else A 6 s := by
  unfold brg cpS
  by_cases h : s = A 1 4
  · simp [iup, h]
  · simp [iup, h]
theorem brg_7 (A : IM) (k p s : Int) : brg A k p 7 s = if s = A 1 4 then p / 8 else A 7 s := by
  unfold brg cpS
  by_cases h : s = A 1 4
  · simp [iup, h]
  · simp [iup, h]
theorem moo_lo {R : IM} {K c b : Int} (h : ¬ b = 4) (h2 : ¬ (55 + 4 * R 149 4 ≤ b ∧ b < 55 + 4 * R 149 4 + 4)) : moo R K c 149 b = R 149 b := by
  unfold moo
  rw [iup_ne (by omega), iup_ne (by omega)]
  simp only [mo0, true_and]
  rw [if_neg (by omega)]
theorem moo_in {R : IM} {K c j : Int} (h4 : 0 ≤ R 149 4) (h : 0 ≤ j ∧ j < 3) : moo R K c 149 (55 + 4 * R 149 4 + j) = R 149 (75 + 4 * K + j) := by
  unfold moo
  rw [iup_ne (by omega), iup_ne (by omega)]
  simp only [mo0, true_and]
  rw [if_pos (by omega)]
  congr 1; omega
theorem moo_c {R : IM} {K c : Int} (h4 : 0 ≤ R 149 4) : moo R K c 149 (55 + 4 * R 149 4 + 3) = c := by
  unfold moo
  rw [iup_ne (by omega), iup_at]
theorem P_moo {A R : IM} {q k p : Int} (h : PQ A R q) (q0 : 0 ≤ q) (h5 : A 1 4 < 5) (k0 : 0 ≤ k) (k1 : k < A 1 5) (hp : inE (A 1 0) (A 1 1) (p % 8) (p / 8)) : PQ (brg A k p) (moo R (k + q) (fsp (A 1 0) p)) q := by
  obtain ⟨⟨⟨v0, v1, v2, v3, v4, v5, v6⟩, vs, va⟩, ⟨r0, r1, r2, r3, r4, r5⟩, rd, ra, rw', rp⟩ := h
  have e0 := brg_1 (A := A) (k := k) (p := p) (b := 0) (by decide)
  have e1 := brg_1 (A := A) (k := k) (p := p) (b := 1) (by decide)
  have e2 := brg_1 (A := A) (k := k) (p := p) (b := 2) (by decide)
  have e3 := brg_1 (A := A) (k := k) (p := p) (b := 3) (by decide)
  have e4 := brg_14 A k p
  have e5 := brg_1 (A := A) (k := k) (p := p) (b := 5) (by decide)
  have c2 := brg_o (A := A) (k := k) (p := p) (c := 2) (by omega)
  have w : ∀ b, ¬ b = 4 → ¬ (55 + 4 * A 1 4 ≤ b ∧ b < 55 + 4 * A 1 4 + 4) → moo R (k + q) (fsp (A 1 0) p) 149 b = R 149 b := fun b b0 b1 => moo_lo b0 (by omega)
  have w4 := moo_4 R (k + q) (fsp (A 1 0) p)
  have wi : ∀ j, 0 ≤ j → j < 3 → moo R (k + q) (fsp (A 1 0) p) 149 (55 + 4 * A 1 4 + j) = R 149 (75 + 4 * (k + q) + j) := fun j j0 j1 => by
    rw [r4]
    exact moo_in (by omega) ⟨j0, j1⟩
  have wc : moo R (k + q) (fsp (A 1 0) p) 149 (55 + 4 * A 1 4 + 3) = fsp (A 1 0) p := by
    rw [r4]
    exact moo_c (by omega)
  have hk := vs (5 + k) (Or.inr ⟨by omega, by omega⟩)
  have hkw := rw' (5 + k) (by omega) (by omega)
  unfold inE at hp
  refine ⟨⟨⟨by omega, by omega, by omega, by omega, by omega, by omega, by rw [c2]; exact v6⟩, fun s hs => ?_, fun a a0 a1 => ?_⟩, ⟨by rw [e0, w 0 (by omega) (by omega)]; exact r0, by rw [e1, w 1 (by omega) (by omega)]; exact r1, by rw [e2, w 2 (by omega) (by omega)]; exact r2, by rw [e3, w 3 (by omega) (by omega)]; exact r3, by rw [e4, w4, r4], by rw [e5, w 5 (by omega) (by omega)]; exact r5⟩, fun j j0 j1 => ?_, fun s s0 s1 => ?_, fun s s0 s1 => ?_, fun a a0 a1 => ?_⟩
  · rw [brg_3, brg_4, brg_5]
    by_cases hq : s = A 1 4
    · rw [if_pos hq, if_pos hq, if_pos hq]; exact hk
    · rw [if_neg hq, if_neg hq, if_neg hq]
      refine vs s ?_
      unfold Slot1 at *
      omega
  · rw [brg_6, brg_7, e0, e1]
    by_cases hq : a = A 1 4
    · rw [if_pos hq, if_pos hq]; omega
    · rw [if_neg hq, if_neg hq]; exact va a a0 (by omega)
  · rw [c2, w (6 + j) (by omega) (by omega)]; exact rd j j0 j1
  · rw [brg_3, brg_4, brg_5]
    by_cases hq : s = A 1 4
    · rw [if_pos hq, if_pos hq, if_pos hq, hq]
      have z := wi 0 (by decide) (by decide)
      rw [Int.add_zero, Int.add_zero] at z
      rw [z, wi 1 (by decide) (by decide), wi 2 (by decide) (by decide)]
      rw [show 75 + 4 * (k + q) = 55 + 4 * (5 + k + q) by omega]
      exact hkw
    · rw [if_neg hq, if_neg hq, if_neg hq, w (55 + 4 * s) (by omega) (by omega), w (55 + 4 * s + 1) (by omega) (by omega), w (55 + 4 * s + 2) (by omega) (by omega)]
      exact ra s s0 (by omega)
  · rw [e5] at s1
    rw [brg_3, brg_4, brg_5, if_neg (by omega), if_neg (by omega), if_neg (by omega), w (55 + 4 * (s + q)) (by omega) (by omega), w (55 + 4 * (s + q) + 1) (by omega) (by omega), w (55 + 4 * (s + q) + 2) (by omega) (by omega)]
    exact rw' s s0 s1
  · rw [brg_6, brg_7, e0]
    by_cases hq : a = A 1 4
    · rw [if_pos hq, if_pos hq, hq, wc]; rfl
    · rw [if_neg hq, if_neg hq, w (55 + 4 * a + 3) (by omega) (by omega)]
      exact rp a a0 (by omega)
theorem dropW_s {A : IM} {k : Int} {c : Nat} {s : Int} (h : 3 ≤ c ∧ c ≤ 7) : dropW A k c s = if 5 + k ≤ s ∧ s < 5 + A 1 5 - 1 then A c (s + 1) else A c s := by
  unfold dropW
  rw [iup_other (by omega)]
  simp only [shA]
  by_cases q : 5 + k ≤ s ∧ s < 5 + A 1 5 - 1
  · rw [if_pos ⟨h, q⟩, if_pos q]
  · rw [if_neg (fun y => q y.2), if_neg q]
theorem dropW_15 (A : IM) (k : Int) : dropW A k 1 5 = A 1 5 - 1 := iup_at _ _ _ _
theorem dropW_1 {A : IM} {k b : Int} (h : ¬ b = 5) : dropW A k 1 b = A 1 b := by
  unfold dropW
  rw [iup_ne (fun y => h y.2), shA_1]
theorem dropW_2 (A : IM) (k : Int) : dropW A k 2 = A 2 := by
  unfold dropW
  rw [iup_other (by decide)]
  funext b
  simp only [shA]
  rw [if_neg (by omega)]
/-- the class takes its first from the row, the reference not yet -/
theorem P_drop {A R : IM} {q : Int} (h : PQ A R q) (h1 : 0 < A 1 5) : PQ (dropW A 0) R (q + 1) := by
  obtain ⟨⟨⟨v0, v1, v2, v3, v4, v5, v6⟩, vs, va⟩, ⟨r0, r1, r2, r3, r4, r5⟩, rd, ra, rw', rp⟩ := h
  have e0 := dropW_1 (A := A) (k := 0) (b := 0) (by decide)
  have e1 := dropW_1 (A := A) (k := 0) (b := 1) (by decide)
  have e2 := dropW_1 (A := A) (k := 0) (b := 2) (by decide)
  have e3 := dropW_1 (A := A) (k := 0) (b := 3) (by decide)
  have e4 := dropW_1 (A := A) (k := 0) (b := 4) (by decide)
  have e5 := dropW_15 A 0
  have c2 := dropW_2 A 0
  refine ⟨⟨⟨by omega, by omega, by omega, by omega, by omega, by omega, by rw [c2]; exact v6⟩, fun s hs => ?_, fun a a0 a1 => ?_⟩, ⟨by omega, by omega, by omega, by omega, by omega, by omega⟩, by rw [c2]; exact rd, fun s s0 s1 => ?_, fun s s0 s1 => ?_, fun a a0 a1 => ?_⟩
  · unfold Slot1 at hs
    rw [dropW_s (c := 3) (by omega), dropW_s (c := 4) (by omega), dropW_s (c := 5) (by omega)]
    by_cases hq : 5 + 0 ≤ s ∧ s < 5 + A 1 5 - 1
    · rw [if_pos hq, if_pos hq, if_pos hq]; exact vs _ (Or.inr ⟨by omega, by omega⟩)
    · rw [if_neg hq, if_neg hq, if_neg hq]; exact vs _ (Or.inl ⟨by omega, by omega⟩)
  · rw [e4] at a1
    rw [dropW_s (c := 6) (by omega), dropW_s (c := 7) (by omega), if_neg (by omega), if_neg (by omega), e0, e1]
    exact va a a0 a1
  · rw [e4] at s1
    rw [dropW_s (c := 3) (by omega), dropW_s (c := 4) (by omega), dropW_s (c := 5) (by omega), if_neg (by omega), if_neg (by omega), if_neg (by omega)]
    exact ra s s0 s1
  · rw [e5] at s1
    rw [dropW_s (c := 3) (by omega), dropW_s (c := 4) (by omega), dropW_s (c := 5) (by omega), if_pos (by omega), if_pos (by omega), if_pos (by omega)]
    have := rw' (s + 1) (by omega) (by omega)
    rw [show s + (q + 1) = s + 1 + q by omega]
    exact this
  · rw [e4] at a1
    rw [dropW_s (c := 6) (by omega), dropW_s (c := 7) (by omega), if_neg (by omega), if_neg (by omega), e0]
    exact rp a a0 a1
/-- both take one from the row -/
theorem P_unw {A R : IM} {k : Int} (h : PQ A R 0) (k0 : 0 ≤ k) (k1 : k < A 1 5) : PQ (dropW A k) (unw R k) 0 := by
  obtain ⟨⟨⟨v0, v1, v2, v3, v4, v5, v6⟩, vs, va⟩, ⟨r0, r1, r2, r3, r4, r5⟩, rd, ra, rw', rp⟩ := h
  have e0 := dropW_1 (A := A) (k := k) (b := 0) (by decide)
  have e1 := dropW_1 (A := A) (k := k) (b := 1) (by decide)
  have e2 := dropW_1 (A := A) (k := k) (b := 2) (by decide)
  have e3 := dropW_1 (A := A) (k := k) (b := 3) (by decide)
  have e4 := dropW_1 (A := A) (k := k) (b := 4) (by decide)
  have e5 := dropW_15 A k
  have c2 := dropW_2 A k
  have w5 : unw R k 149 5 = A 1 5 - 1 := by
    unfold unw
    simp only [shW, true_and]
    rw [if_pos trivial]
    omega
  have w : ∀ b, ¬ b = 5 → unw R k 149 b = if 75 + 4 * k ≤ b ∧ b < 75 + 4 * (A 1 5 - 1) then R 149 (b + 4) else R 149 b := fun b b0 => by
    unfold unw
    simp only [shW, true_and]
    rw [if_neg b0, ← r5, Int.add_zero]
  have wl : ∀ b, b < 75 → ¬ b = 5 → unw R k 149 b = R 149 b := fun b b0 b1 => by rw [w b b1, if_neg (by omega)]
  refine ⟨⟨⟨by omega, by omega, by omega, by omega, by omega, by omega, by rw [c2]; exact v6⟩, fun s hs => ?_, fun a a0 a1 => ?_⟩, ⟨by rw [e0, wl 0 (by omega) (by omega)]; exact r0, by rw [e1, wl 1 (by omega) (by omega)]; exact r1, by rw [e2, wl 2 (by omega) (by omega)]; exact r2, by rw [e3, wl 3 (by omega) (by omega)]; exact r3, by rw [e4, wl 4 (by omega) (by omega)]; exact r4, by omega⟩, fun j j0 j1 => by rw [c2, wl _ (by omega) (by omega)]; exact rd j j0 j1, fun s s0 s1 => ?_, fun s s0 s1 => ?_, fun a a0 a1 => ?_⟩
  · unfold Slot1 at hs
    rw [dropW_s (c := 3) (by omega), dropW_s (c := 4) (by omega), dropW_s (c := 5) (by omega)]
    by_cases hq : 5 + k ≤ s ∧ s < 5 + A 1 5 - 1
    · rw [if_pos hq, if_pos hq, if_pos hq]; exact vs _ (Or.inr ⟨by omega, by omega⟩)
    · rw [if_neg hq, if_neg hq, if_neg hq]; refine vs _ ?_; unfold Slot1; omega
  · rw [e4] at a1
    rw [dropW_s (c := 6) (by omega), dropW_s (c := 7) (by omega), if_neg (by omega), if_neg (by omega), e0, e1]
    exact va a a0 a1
  · rw [e4] at s1
    rw [dropW_s (c := 3) (by omega), dropW_s (c := 4) (by omega), dropW_s (c := 5) (by omega), if_neg (by omega), if_neg (by omega), if_neg (by omega), wl _ (by omega) (by omega), wl _ (by omega) (by omega), wl _ (by omega) (by omega)]
    exact ra s s0 s1
  · rw [e5] at s1
    rw [dropW_s (c := 3) (by omega), dropW_s (c := 4) (by omega), dropW_s (c := 5) (by omega), Int.add_zero, w _ (by omega), w _ (by omega), w _ (by omega)]
    by_cases hq : 5 + k ≤ s ∧ s < 5 + A 1 5 - 1
    · rw [if_pos hq, if_pos hq, if_pos hq, if_pos (by omega), if_pos (by omega), if_pos (by omega)]
      have := rw' (s + 1) (by omega) (by omega)
      rw [show 55 + 4 * (s + 1 + 0) = 55 + 4 * s + 4 by omega] at this
      rw [show 55 + 4 * s + 1 + 4 = 55 + 4 * s + 4 + 1 by omega, show 55 + 4 * s + 2 + 4 = 55 + 4 * s + 4 + 2 by omega]
      exact this
    · rw [if_neg hq, if_neg hq, if_neg hq, if_neg (by omega), if_neg (by omega), if_neg (by omega)]
      have := rw' s (by omega) (by omega)
      rw [Int.add_zero] at this
      exact this
  · rw [e4] at a1
    rw [dropW_s (c := 6) (by omega), dropW_s (c := 7) (by omega), if_neg (by omega), if_neg (by omega), e0, wl _ (by omega) (by omega)]
    exact rp a a0 a1
/-- one comes: both sides -/
theorem P_come {A R : IM} {k p : Int} (h : PQ A R 0) (h5 : A 1 4 < 5) (k0 : 0 ≤ k) (k1 : k < A 1 5) (hp : inE (A 1 0) (A 1 1) (p % 8) (p / 8)) : PQ (toAnch A k p) (unw (moo R k (fsp (A 1 0) p)) k) 0 := by
  have := P_moo h (Int.le_refl 0) h5 k0 k1 hp
  rw [Int.add_zero] at this
  rw [toAnch_brg]
  exact P_unw this k0 (by rw [brg_1 (by decide)]; exact k1)
