/-! BOTH SIDES DO THE SAME DEED: anchor, fit -/
theorem unw_o {R : IM} {k : Int} {c : Nat} (h : ¬ c = 149) : unw R k c = R c := by
  funext b
  unfold unw
  simp only [shW, h, false_and, if_false]
theorem unw_hi {R : IM} {k b : Int} (h : R 149 5 ≤ 3) (hb : 90 ≤ b) : unw R k 149 b = R 149 b := by
  unfold unw
  simp only [shW, true_and]
  rw [if_neg (by omega), if_neg (by omega)]
theorem moo_hi {R : IM} {K c b : Int} (h : R 149 4 ≤ 4) (hb : 90 ≤ b) : moo R K c 149 b = R 149 b := moo_lo (by omega) (by omega)
theorem Inv.k16 {I : IM} (h : Inv I) : 0 ≤ I 148 1 ∧ I 148 1 ≤ 16 := by have := h.2.1; unfold Hst at this; omega
/-- what the class remembered and the reference's row, before the deed -/
theorem PQ_rem {I Ia J : IM} (hI : Inv I) (hR : RemC I Ia) (h8 : J 148 1 = I 148 1) (h9 : J 149 = I 149) : PQ Ia (remM J) 0 :=
  PQ_cong (PQ_cur.mpr hI.1) (Int.le_refl 0) (by have := hI.1.1.1.2.2.2.2.2.1; omega) (fun c _ c1 => hR.lo c1) (fun b hb => by rw [remM_lo (by rw [h8]; exact hI.k16) (Or.inl hb), h9])
theorem J_come {I Ia I1 I2 : IM} {k p : Int} (hI : Inv I) (hR : RemC I Ia) (h1 : I1 = toAnch Ia k p) (h2 : I2 = unw (moo (remM I1) k (fsp (I 1 0) p)) k) (h5 : I 1 4 < 5) (k0 : 0 ≤ k) (k1 : k < I 1 5) (hp : inE (I 1 0) (I 1 1) (p % 8) (p / 8)) : Inv I2 := by
  obtain ⟨b8, b9⟩ := RemC.both hI hR
  have a1 : Ia 1 = I 1 := hR.lo (by decide)
  have o : ∀ c, (c < 1 ∨ 7 < c) → I1 c = Ia c := fun c q => by rw [h1]; exact toAnch_o (by omega)
  have i9 : I1 149 = I 149 := (o 149 (by omega)).trans b9
  have i8 : I1 148 = I 148 := (o 148 (by omega)).trans b8
  have hP : PQ Ia (remM I1) 0 := PQ_rem hI hR (by rw [i8]) i9
  have hK : 0 ≤ I1 148 1 ∧ I1 148 1 ≤ 16 := by rw [i8]; exact hI.k16
  have hB := hI.1.1.1.2.2.2.2.2.1
  have m4 : remM I1 149 4 = I 1 4 := by rw [remM_lo hK (Or.inl (by decide)), i9, hI.1.n4]
  have m5 : remM I1 149 5 = I 1 5 := by rw [remM_lo hK (Or.inl (by decide)), i9, hI.1.n5]
  have hA := hI.1.1.1.2.2.2.2.1
  have w0 : moo (remM I1) k (fsp (I 1 0) p) 149 5 = I 1 5 := by rw [moo_5 (by rw [m4]; omega), m5]
  refine deed hI hR o (fun c q => ?_) (fun b _ => ?_) (fun b b0 b1 => ?_) (PQ_cur.mp ?_)
  · rw [h2, unw_o (by omega), moo_o (by omega), remM_o (by omega) (by omega)]
  · rw [h2, unw_o (by omega), moo_o (by omega)]
  · rw [h2, unw_hi (by omega) b0, moo_hi (by omega) b0]
  · have := P_come hP (by rw [a1]; exact h5) k0 (by rw [a1]; exact k1) (by rw [a1]; exact hp)
    rw [a1, ← h2, ← h1] at this
    refine PQ_cong this (Int.le_refl 0) ?_ (fun c c0 c1 => ?_) (fun b _ => rfl)
    · rw [h1, toAnch_15, a1]; omega
    · rw [h2, unw_o (by omega), moo_o (by omega), remM_o (by omega) (by omega)]
theorem J_anchor {I I1 I2 : IM} {k x y z z2 : Int} (hI : Inv I) (h : (¬ ((0 ≤ k ∧ k < I 1 5) ∧ inE (I 1 0) (I 1 1) x y) ∧ z = -1000000001 ∧ I1 = I) ∨ (((0 ≤ k ∧ k < I 1 5) ∧ inE (I 1 0) (I 1 1) x y) ∧ ¬ cPlace I k x y ∧ z = -1000000003 ∧ I1 = I) ∨ (((0 ≤ k ∧ k < I 1 5) ∧ inE (I 1 0) (I 1 1) x y) ∧ cPlace I k x y ∧ ¬ I 1 4 < 5 ∧ z = -1000000004 ∧ I1 = I) ∨ (((0 ≤ k ∧ k < I 1 5) ∧ inE (I 1 0) (I 1 1) x y) ∧ cPlace I k x y ∧ I 1 4 < 5 ∧ z = I 1 4 ∧ ∃ Ia, RemC I Ia ∧ I1 = toAnch Ia k (y * 8 + x)))
    (g : (¬ ((0 ≤ k ∧ k < I1 149 5) ∧ inE (I1 149 0) (I1 149 1) x y) ∧ z2 = -1000000001 ∧ I2 = I1) ∨ (((0 ≤ k ∧ k < I1 149 5) ∧ inE (I1 149 0) (I1 149 1) x y) ∧ ¬ mFr I1 (75 + 4 * k) 0 (y * I1 149 0 + x) ∧ z2 = -1000000003 ∧ I2 = I1) ∨ (((0 ≤ k ∧ k < I1 149 5) ∧ inE (I1 149 0) (I1 149 1) x y) ∧ mFr I1 (75 + 4 * k) 0 (y * I1 149 0 + x) ∧ I1 149 4 = 5 ∧ z2 = -1000000004 ∧ I2 = I1) ∨ (((0 ≤ k ∧ k < I1 149 5) ∧ inE (I1 149 0) (I1 149 1) x y) ∧ mFr I1 (75 + 4 * k) 0 (y * I1 149 0 + x) ∧ ¬ I1 149 4 = 5 ∧ z2 = I1 149 4 ∧ I2 = unw (moo (remM I1) k (y * I1 149 0 + x)) k)) : z = z2 ∧ Inv I2 := by
  have hA := hI.1.1.1.2.2.2.2.1
  have fr : (0 ≤ k ∧ k < I 1 5) → inE (I 1 0) (I 1 1) x y → (mFr I (75 + 4 * k) 0 (y * I 1 0 + x) ↔ cPlace I k x y) := fun hk hi => by
    rw [show 75 + 4 * k = 55 + 4 * (5 + k) by omega, eFc hI.1 (Or.inr ⟨by omega, by omega⟩) hi, ePl]
  have i9 : I1 149 = I 149 := by
    rcases h with ⟨-, -, h3⟩ | ⟨-, -, -, h3⟩ | ⟨-, -, -, -, h3⟩ | ⟨-, -, -, -, Ia, hR, h3⟩
    · rw [h3]
    · rw [h3]
    · rw [h3]
    · rw [h3, toAnch_o (by omega)]; exact (RemC.both hI hR).2
  have fe : ∀ p m c, mFr I1 p m c ↔ mFr I p m c := fun p m c => mFr_eq i9
  rw [i9, hI.1.n5, hI.1.n4, hI.1.w0, hI.1.h1, fe] at g
  rcases h with ⟨h1, h2, h3⟩ | ⟨h0, h1, h2, h3⟩ | ⟨h0, h1, h4, h2, h3⟩ | ⟨h0, h1, h4, h2, Ia, hR, h3⟩
  · rcases g with ⟨g1, g2, g3⟩ | ⟨g1, -⟩ | ⟨g1, -⟩ | ⟨g1, -⟩
    · rw [g3, h3]; exact ⟨by rw [h2, g2], hI⟩
    · exact absurd g1 h1
    · exact absurd g1 h1
    · exact absurd g1 h1
  · have q := mt (fr h0.1 h0.2).mp h1
    rcases g with ⟨g1, -⟩ | ⟨g0, g1, g2, g3⟩ | ⟨g0, g1, -⟩ | ⟨g0, g1, -⟩
    · exact absurd h0 g1
    · rw [g3, h3]; exact ⟨by rw [h2, g2], hI⟩
    · exact absurd g1 q
    · exact absurd g1 q
  · have q := (fr h0.1 h0.2).mpr h1
    rcases g with ⟨g1, -⟩ | ⟨g0, g1, -⟩ | ⟨g0, g1, g4, g2, g3⟩ | ⟨g0, g1, g4, -⟩
    · exact absurd h0 g1
    · exact absurd q g1
    · rw [g3, h3]; exact ⟨by rw [h2, g2], hI⟩
    · omega
  · have q := (fr h0.1 h0.2).mpr h1
    rcases g with ⟨g1, -⟩ | ⟨g0, g1, -⟩ | ⟨g0, g1, g4, -⟩ | ⟨g0, g1, g4, g2, g3⟩
    · exact absurd h0 g1
    · exact absurd q g1
    · omega
    · have hxy := h0.2
      have hw := hI.1.1.1.1
      have e1 : (y * 8 + x) % 8 = x := by unfold inE at hxy; omega
      have e2 : (y * 8 + x) / 8 = y := by unfold inE at hxy; omega
      refine ⟨by rw [h2, g2], J_come hI hR h3 ?_ h4 h0.1.1 h0.1.2 (by rw [e1, e2]; exact hxy)⟩
      rw [g3]
      unfold fsp
      rw [e1, e2]
theorem J_fit {I I1 I2 : IM} {k z z2 : Int} (hI : Inv I) (h : (¬ (0 ≤ k ∧ k < I 1 5) ∧ z = -1000000001 ∧ I1 = I) ∨ ((0 ≤ k ∧ k < I 1 5) ∧ ∃ (u : Int64) (s : Int), LB u (cPlace I k) ∧ ((s = -1 ∧ ∀ i, 0 ≤ i → i < 64 → bl u i = false) ∨ (0 ≤ s ∧ s < 64 ∧ bl u s = true ∧ ∀ i, 0 ≤ i → i < s → bl u i = false)) ∧ ((s = -1 ∧ z = -1000000003 ∧ I1 = I) ∨ (¬ s = -1 ∧ ¬ I 1 4 < 5 ∧ z = -1000000004 ∧ I1 = I) ∨ (¬ s = -1 ∧ I 1 4 < 5 ∧ z = (s / 8) * I 1 0 + s % 8 ∧ ∃ Ia, RemC I Ia ∧ I1 = toAnch Ia k s))))
    (g : (¬ (0 ≤ k ∧ k < I1 149 5) ∧ z2 = -1000000001 ∧ I2 = I1) ∨ ((0 ≤ k ∧ k < I1 149 5) ∧ ∃ s : Int, Fst (fun c => mFr I1 (75 + 4 * k) 0 c) (I1 149 0 * I1 149 1) s ∧ ((s = -1 ∧ z2 = -1000000003 ∧ I2 = I1) ∨ (¬ s = -1 ∧ I1 149 4 = 5 ∧ z2 = -1000000004 ∧ I2 = I1) ∨ (¬ s = -1 ∧ ¬ I1 149 4 = 5 ∧ z2 = s ∧ I2 = unw (moo (remM I1) k s) k)))) : z = z2 ∧ Inv I2 := by
  have hA := hI.1.1.1.2.2.2.2.1
  have i9 : I1 149 = I 149 := by
    rcases h with ⟨-, -, h3⟩ | ⟨-, u, s, -, -, ⟨-, -, h3⟩ | ⟨-, -, -, h3⟩ | ⟨-, -, -, Ia, hR, h3⟩⟩
    · rw [h3]
    · rw [h3]
    · rw [h3]
    · rw [h3, toAnch_o (by omega)]; exact (RemC.both hI hR).2
  have fe : (fun c => mFr I1 (75 + 4 * k) 0 c) = fun c => mFr I (75 + 4 * k) 0 c := funext fun c => propext (mFr_eq i9)
  rw [i9, fe, hI.1.n5, hI.1.n4] at g
  rcases h with ⟨h1, h2, h3⟩ | ⟨h0, u, s, hu, hs, h⟩
  · rcases g with ⟨g1, g2, g3⟩ | ⟨g1, -⟩
    · rw [g3, h3]; exact ⟨by rw [h2, g2], hI⟩
    · exact absurd g1 h1
  · rcases g with ⟨g1, -⟩ | ⟨g0, t, ht, g⟩
    · exact absurd h0 g1
    · have e := Fst.uniq ht (eFst hI.1 h0.1 h0.2 hu hs)
      rcases h with ⟨q1, h2, h3⟩ | ⟨q1, h4, h2, h3⟩ | ⟨q1, h4, h2, Ia, hR, h3⟩
      · rw [if_pos q1] at e
        rcases g with ⟨p1, g2, g3⟩ | ⟨p1, -⟩ | ⟨p1, -⟩
        · rw [g3, h3]; exact ⟨by rw [h2, g2], hI⟩
        · exact absurd e p1
        · exact absurd e p1
      · rw [if_neg q1] at e
        have nn : 0 ≤ (s / 8) * I 1 0 + s % 8 := by
          have a1 := Int.mul_nonneg (a := s / 8) (b := I 1 0) (by omega) (by have := hI.1.1.1.1; omega)
          omega
        rcases g with ⟨p1, -⟩ | ⟨p1, g4, g2, g3⟩ | ⟨p1, g4, -⟩
        · omega
        · rw [g3, h3]; exact ⟨by rw [h2, g2], hI⟩
        · omega
      · rw [if_neg q1] at e
        have nn : 0 ≤ (s / 8) * I 1 0 + s % 8 := by
          have a1 := Int.mul_nonneg (a := s / 8) (b := I 1 0) (by omega) (by have := hI.1.1.1.1; omega)
          omega
        rcases g with ⟨p1, -⟩ | ⟨p1, g4, -⟩ | ⟨p1, g4, g2, g3⟩
        · omega
        · omega
        · have hs' : 0 ≤ s ∧ s < 64 ∧ bl u s = true := by rcases hs with hs | hs; exact absurd hs.1 q1; exact ⟨hs.1, hs.2.1, hs.2.2.1⟩
          have hp := ((hu s hs'.1 hs'.2.1).mp hs'.2.2)
          rw [ePl] at hp
          exact ⟨by rw [h2, g2, e], J_come hI hR h3 (by rw [g3, e]; rfl) h4 h0.1 h0.2 hp.1.1⟩
