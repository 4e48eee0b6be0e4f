/-! BOTH SIDES DO THE SAME DEED: seed, tear, write, undo -/
theorem Img_eq {I I2 : IM} (h1 : ∀ c, 132 ≤ c → c < 148 → I2 c = I c) (h2 : I2 148 2 = I 148 2) (h3 : ∀ b, 1530 ≤ b → b < 1710 → I2 149 b = I 149 b) (h4 : I2 150 = I 150) (h : Img I) : Img I2 := by
  refine ⟨by rw [h2]; exact h.1, fun i hi => ?_⟩
  obtain ⟨q1, q2⟩ := h.2 i hi
  rw [h2, h1 (132 + 8 * i) (by omega) (by omega), h4]
  refine ⟨q1, fun hb => ?_⟩
  obtain ⟨p1, p2⟩ := q2 hb
  exact ⟨HB_same p1 (fun j hj => h1 _ (by omega) (by omega)) (fun k k0 k1 => h3 _ (by omega) (by omega)), p2⟩
theorem Bk_eq {I I2 : IM} (h1 : ∀ c, 128 ≤ c → c ≤ 130 → I2 c = I c) (h2 : I2 148 7 = I 148 7) (h3 : I2 151 = I 151) (h4 : I2 152 = I 152) (h : Bk I) : Bk I2 := by
  unfold Bk MBk
  rw [h1 128 (by omega) (by omega), h1 129 (by omega) (by omega), h1 130 (by omega) (by omega), h2, h3, h4]
  exact h
theorem J_seed {I I1 I2 : IM} {v z z2 : Int} (hI : Inv I) (hv : v ≤ 2147483647) (h : (v < 0 ∧ z = -1000000002 ∧ I1 = I) ∨ (¬ v < 0 ∧ z = I 0 5 ∧ I1 = iup I 0 5 v)) (g : (v < 0 ∧ z2 = -1000000002 ∧ I2 = I1) ∨ (¬ v < 0 ∧ z2 = I1 148 3 ∧ I2 = iup I1 148 3 v)) : z = z2 ∧ Inv I2 := by
  rcases h with ⟨h1, h2, h3⟩ | ⟨h1, h2, h3⟩
  · rcases g with ⟨g1, g2, g3⟩ | ⟨g1, -⟩
    · rw [g3, h3]; exact ⟨by rw [h2, g2], hI⟩
    · omega
  · rcases g with ⟨g1, -⟩ | ⟨g1, g2, g3⟩
    · omega
    · have c : ∀ c, ¬ c = 0 → ¬ c = 148 → I2 c = I c := fun c c0 c8 => by rw [g3, iup_other c8, h3, iup_other c0]
      have e : ∀ b, ¬ b = 3 → I2 148 b = I 148 b := fun b hb => by rw [g3, iup_ne (fun y => hb y.2), h3, iup_other (by decide)]
      have e0 : I2 0 5 = v := by rw [g3, iup_other (by decide), h3, iup_at]
      have e3 : I2 148 3 = v := by rw [g3, iup_at]
      refine ⟨by rw [h2, g2, h3, iup_other (by decide)]; exact hI.2.2.2.1.1, ?_, Hst_eq (fun k _ _ => c k (by omega) (by omega)) (e 1 (by decide)) (c 149 (by decide) (by decide)) hI.2.1, Img_eq (fun k _ _ => c k (by omega) (by omega)) (e 2 (by decide)) (fun b _ _ => by rw [c 149 (by decide) (by decide)]) (c 150 (by decide) (by decide)) hI.2.2.1, ⟨by rw [e0, e3], by omega, by omega⟩, Bk_eq (fun k _ _ => c k (by omega) (by omega)) (e 7 (by decide)) (c 151 (by decide) (by decide)) (c 152 (by decide) (by decide)) hI.2.2.2.2⟩
      have cur := hI.1
      unfold Cur CW CI0 CI1 CI2 HRc Slot1 at *
      rw [c 1 (by decide) (by decide), c 2 (by decide) (by decide), c 3 (by decide) (by decide), c 4 (by decide) (by decide), c 5 (by decide) (by decide), c 6 (by decide) (by decide), c 7 (by decide) (by decide), c 149 (by decide) (by decide)]
      exact cur
theorem Cur_eq1 {I I2 : IM} (h : ∀ c, 1 ≤ c → c ≤ 7 → I2 c = I c) (h9 : I2 149 = I 149) (hc : Cur I) : Cur I2 := by
  unfold Cur CW CI0 CI1 CI2 HRc Slot1 at *
  rw [h 1 (by decide) (by decide), h 2 (by decide) (by decide), h 3 (by decide) (by decide), h 4 (by decide) (by decide), h 5 (by decide) (by decide), h 6 (by decide) (by decide), h 7 (by decide) (by decide), h9]
  exact hc
theorem J_tear {I I1 I2 : IM} {z z2 : Int} (hI : Inv I) (h : z = I 128 2 ∧ I1 = iup I 128 2 0) (g : z2 = I1 148 7 ∧ I2 = iup I1 148 7 0) : z = z2 ∧ Inv I2 := by
  obtain ⟨h2, h3⟩ := h
  obtain ⟨g2, g3⟩ := g
  have c : ∀ c, ¬ c = 128 → ¬ c = 148 → I2 c = I c := fun c c0 c8 => by rw [g3, iup_other c8, h3, iup_other c0]
  have e : ∀ b, ¬ b = 7 → I2 148 b = I 148 b := fun b hb => by rw [g3, iup_ne (fun y => hb y.2), h3, iup_other (by decide)]
  have e0 : I2 128 2 = 0 := by rw [g3, iup_other (by decide), h3, iup_at]
  have e7 : I2 148 7 = 0 := by rw [g3, iup_at]
  refine ⟨by rw [h2, g2, h3, iup_other (by decide)]; exact hI.2.2.2.2.1, Cur_eq1 (fun k _ _ => c k (by omega) (by omega)) (c 149 (by decide) (by decide)) hI.1, Hst_eq (fun k _ _ => c k (by omega) (by omega)) (e 1 (by decide)) (c 149 (by decide) (by decide)) hI.2.1, Img_eq (fun k _ _ => c k (by omega) (by omega)) (e 2 (by decide)) (fun b _ _ => by rw [c 149 (by decide) (by decide)]) (c 150 (by decide) (by decide)) hI.2.2.1, ?_, ⟨by rw [e0, e7], ⟨by omega, fun k k0 k1 => by omega⟩, fun k k0 k1 => by omega⟩⟩
  unfold Sd
  rw [c 0 (by decide) (by decide), e 3 (by decide)]
  exact hI.2.2.2.1
theorem J_write {I I1 I2 : IM} {a s z z2 : Int} (hI : Inv I) (hs : -2147483648 ≤ s ∧ s ≤ 2147483647) (h : (¬ (0 ≤ a ∧ a < I 1 4) ∧ z = -1000000001 ∧ I1 = I) ∨ ((0 ≤ a ∧ a < I 1 4) ∧ ¬ I 128 2 < 20 ∧ z = -1000000004 ∧ I1 = I) ∨ ((0 ≤ a ∧ a < I 1 4) ∧ I 128 2 < 20 ∧ z = I 128 2 + 1 ∧ I1 = iup (iup (iup I 129 (I 128 2) a) 130 (I 128 2) s) 128 2 (I 128 2 + 1))) (g : (¬ (0 ≤ a ∧ a < I1 149 4) ∧ z2 = -1000000001 ∧ I2 = I1) ∨ ((0 ≤ a ∧ a < I1 149 4) ∧ I1 148 7 = 20 ∧ z2 = -1000000004 ∧ I2 = I1) ∨ ((0 ≤ a ∧ a < I1 149 4) ∧ ¬ I1 148 7 = 20 ∧ z2 = I1 148 7 + 1 ∧ I2 = iup (iup (iup I1 151 (I1 148 7) a) 152 (I1 148 7) s) 148 7 (I1 148 7 + 1))) : z = z2 ∧ Inv I2 := by
  obtain ⟨b1, ⟨b2, b3⟩, b4⟩ := id hI.2.2.2.2
  have n4 := hI.1.n4
  have hA := hI.1.1.1.2.2.2.2.1
  rcases h with ⟨h1, h2, h3⟩ | ⟨h0, h1, h2, h3⟩ | ⟨h0, h1, h2, h3⟩
  · rw [h3, n4] at g
    rcases g with ⟨g1, g2, g3⟩ | ⟨g1, -⟩ | ⟨g1, -⟩
    · rw [g3]; exact ⟨by rw [h2, g2], hI⟩
    · exact absurd g1 h1
    · exact absurd g1 h1
  · rw [h3, n4] at g
    rcases g with ⟨g1, -⟩ | ⟨g0, g1, g2, g3⟩ | ⟨g0, g1, -⟩
    · exact absurd h0 g1
    · rw [g3]; exact ⟨by rw [h2, g2], hI⟩
    · omega
  · have i9 : I1 149 = I 149 := by rw [h3, iup_other (by decide), iup_other (by decide), iup_other (by decide)]
    have i8 : I1 148 = I 148 := by rw [h3, iup_other (by decide), iup_other (by decide), iup_other (by decide)]
    rw [i9, i8, n4, ← b1] at g
    rcases g with ⟨g1, -⟩ | ⟨g0, g1, -⟩ | ⟨g0, g1, g2, g3⟩
    · exact absurd h0 g1
    · omega
    · generalize hn : I 128 2 = n at *
      have c : ∀ c, ¬ c = 128 → ¬ c = 129 → ¬ c = 130 → ¬ c = 148 → ¬ c = 151 → ¬ c = 152 → I2 c = I c := fun c q1 q2 q3 q4 q5 q6 => by rw [g3, iup_other q4, iup_other q6, iup_other q5, h3, iup_other q1, iup_other q3, iup_other q2]
      have e : ∀ b, ¬ b = 7 → I2 148 b = I 148 b := fun b hb => by rw [g3, iup_ne (fun y => hb y.2), iup_other (by decide), iup_other (by decide), i8]
      have e7 : I2 148 7 = n + 1 := by rw [g3, iup_at]
      have e0 : I2 128 2 = n + 1 := by rw [g3, iup_other (by decide), iup_other (by decide), iup_other (by decide), h3, iup_at]
      have f1 : ∀ k, I2 151 k = if k = n then a else I 151 k := fun k => by
        rw [g3, iup_other (by decide), iup_other (by decide)]
        by_cases hk : k = n
        · rw [hk, iup_at, if_pos rfl]
        · rw [iup_ne (fun y => hk y.2), if_neg hk, h3, iup_other (by decide), iup_other (by decide), iup_other (by decide)]
      have f2 : ∀ k, I2 152 k = if k = n then s else I 152 k := fun k => by
        rw [g3, iup_other (by decide)]
        by_cases hk : k = n
        · rw [hk, iup_at, if_pos rfl]
        · rw [iup_ne (fun y => hk y.2), if_neg hk, iup_other (by decide), h3, iup_other (by decide), iup_other (by decide), iup_other (by decide)]
      have f3 : ∀ k, I2 129 k = if k = n then a else I 129 k := fun k => by
        rw [g3, iup_other (by decide), iup_other (by decide), iup_other (by decide), h3, iup_other (by decide), iup_other (by decide)]
        by_cases hk : k = n
        · rw [hk, iup_at, if_pos rfl]
        · rw [iup_ne (fun y => hk y.2), if_neg hk]
      have f4 : ∀ k, I2 130 k = if k = n then s else I 130 k := fun k => by
        rw [g3, iup_other (by decide), iup_other (by decide), iup_other (by decide), h3, iup_other (by decide)]
        by_cases hk : k = n
        · rw [hk, iup_at, if_pos rfl]
        · rw [iup_ne (fun y => hk y.2), if_neg hk, iup_other (by decide)]
      refine ⟨by rw [h2, g2], Cur_eq1 (fun k _ _ => c k (by omega) (by omega) (by omega) (by omega) (by omega) (by omega)) (c 149 (by decide) (by decide) (by decide) (by decide) (by decide) (by decide)) hI.1, Hst_eq (fun k _ _ => c k (by omega) (by omega) (by omega) (by omega) (by omega) (by omega)) (e 1 (by decide)) (c 149 (by decide) (by decide) (by decide) (by decide) (by decide) (by decide)) hI.2.1, Img_eq (fun k _ _ => c k (by omega) (by omega) (by omega) (by omega) (by omega) (by omega)) (e 2 (by decide)) (fun b _ _ => by rw [c 149 (by decide) (by decide) (by decide) (by decide) (by decide) (by decide)]) (c 150 (by decide) (by decide) (by decide) (by decide) (by decide) (by decide)) hI.2.2.1, ?_, by rw [e0, e7], ⟨by omega, fun k k0 k1 => ?_⟩, fun k k0 k1 => ?_⟩
      · unfold Sd
        rw [c 0 (by decide) (by decide) (by decide) (by decide) (by decide) (by decide), e 3 (by decide)]
        exact hI.2.2.2.1
      · rw [f1, f2]
        by_cases hk : k = n
        · rw [if_pos hk, if_pos hk]; omega
        · rw [if_neg hk, if_neg hk]; exact b3 k k0 (by omega)
      · rw [f1, f2, f3, f4]
        by_cases hk : k = n
        · rw [if_pos hk, if_pos hk, if_pos hk, if_pos hk]; exact ⟨rfl, rfl⟩
        · rw [if_neg hk, if_neg hk, if_neg hk, if_neg hk]; exact b4 k k0 (by omega)
theorem J_undo {I I1 I2 : IM} {n z z2 : Int} (hI : Inv I) (h : ((n < 1 ∨ 16 < n) ∧ z = -1000000002 ∧ I1 = I) ∨ (¬ (n < 1 ∨ 16 < n) ∧ I 8 2 < n ∧ z = -1000000003 ∧ I1 = I) ∨ (¬ (n < 1 ∨ 16 < n) ∧ ¬ I 8 2 < n ∧ z = I 8 2 - n ∧ HC (iup (iup I 8 1 ((I 8 1 - n) % 16)) 8 2 (I 8 2 - n)) (10 + 7 * ((I 8 1 - n) % 16).toNat) 1 6 I1)) (g : (¬ (1 ≤ n ∧ n ≤ 16) ∧ z2 = -1000000002 ∧ I2 = I1) ∨ ((1 ≤ n ∧ n ≤ 16) ∧ I1 148 1 < n ∧ z2 = -1000000003 ∧ I2 = I1) ∨ ((1 ≤ n ∧ n ≤ 16) ∧ ¬ I1 148 1 < n ∧ z2 = I1 148 1 - n ∧ I2 = cpR (iup I1 148 1 (I1 148 1 - n)) (90 * (I1 148 1 - n + 1)) 0 90)) : z = z2 ∧ Inv I2 := by
  obtain ⟨n1, n2, n3, n4⟩ := id hI.2.1
  rcases h with ⟨h1, h2, h3⟩ | ⟨h0, h1, h2, h3⟩ | ⟨h0, h1, h2, a1, a2, a3⟩
  · rcases g with ⟨g1, g2, g3⟩ | ⟨g1, -⟩ | ⟨g1, -⟩
    · rw [g3, h3]; exact ⟨by rw [h2, g2], hI⟩
    · omega
    · omega
  · rw [h3] at g
    rcases g with ⟨g1, -⟩ | ⟨g0, g1, g2, g3⟩ | ⟨g0, g1, -⟩
    · omega
    · rw [g3]; exact ⟨by rw [h2, g2], hI⟩
    · omega
  · have up : ∀ c, 8 < c → I1 c = I c := fun c hc => by rw [a3 c (by omega), iup_other (by omega), iup_other (by omega)]
    have u0 : I1 0 = I 0 := by rw [a3 0 (by omega), iup_other (by omega), iup_other (by omega)]
    have i8 := up 148 (by omega)
    have i9 := up 149 (by omega)
    rw [i8, ← n3] at g
    rcases g with ⟨g1, -⟩ | ⟨g0, g1, -⟩ | ⟨g0, g1, g2, g3⟩
    · omega
    · omega
    · have lo : ∀ c, ¬ c = 148 → ¬ c = 149 → I2 c = I1 c := fun c q0 q1 => by rw [g3, cpR_o q1, iup_other q0]
      have e8 : I1 8 = iup (iup I 8 1 ((I 8 1 - n) % 16)) 8 2 (I 8 2 - n) 8 := a3 8 (by omega)
      have e81 : I2 8 1 = (I 8 1 - n) % 16 := by rw [lo 8 (by decide) (by decide), e8, iup_ne (by omega), iup_at]
      have e82 : I2 8 2 = I 8 2 - n := by rw [lo 8 (by decide) (by decide), e8, iup_at]
      have k1 : I2 148 1 = I 8 2 - n := by rw [g3, cpR_o (by decide), iup_at]
      have ko : ∀ b, ¬ b = 1 → I2 148 b = I 148 b := fun b hb => by rw [g3, cpR_o (by decide), iup_ne (fun y => hb y.2), i8]
      have w0 : ∀ k, 0 ≤ k → k < 90 → I2 149 k = I 149 (90 * (I 8 2 - n + 1) + k) := fun k q0 q1 => by
        rw [g3]
        simp only [cpR, true_and]
        rw [if_pos (by omega), iup_other (by decide), i9]
        congr 1; omega
      have w1 : ∀ k, 90 ≤ k → I2 149 k = I 149 k := fun k q0 => by
        rw [g3]
        simp only [cpR, true_and]
        rw [if_neg (by omega), iup_other (by decide), i9]
      have ring : ∀ c, 8 < c → c < 148 → I2 c = I c := fun c q0 q1 => (lo c (by omega) (by omega)).trans (up c q0)
      have src := n4 n (by omega) (by omega)
      have J8 : ∀ c, 8 < c → iup (iup I 8 1 ((I 8 1 - n) % 16)) 8 2 (I 8 2 - n) c = I c := fun c hc => by rw [iup_other (by omega), iup_other (by omega)]
      refine ⟨by rw [h2, g2], HB_0.mp (HB_tr src (fun k q0 q1 => ?_) (fun k q0 q1 => ?_) (fun j k j0 j1 q0 q1 => ?_) (fun k q0 q1 => ?_)), ⟨by omega, by omega, by omega, fun j j0 j1 => ?_⟩, Img_eq (fun c q0 q1 => ring c (by omega) q1) (ko 2 (by decide)) (fun b q0 _ => w1 b (by omega)) ((lo 150 (by decide) (by decide)).trans (up 150 (by omega))) hI.2.2.1, ?_, Bk_eq (fun c q0 q1 => ring c (by omega) (by omega)) (ko 7 (by decide)) ((lo 151 (by decide) (by decide)).trans (up 151 (by omega))) ((lo 152 (by decide) (by decide)).trans (up 152 (by omega))) hI.2.2.2.2⟩
      · rw [lo 1 (by decide) (by decide), a1 k q0 q1, J8 _ (by omega)]
      · have q := a2 1 k (by decide) (by decide) q0 (by show k < HLen 1; unfold HLen; rw [if_pos rfl]; exact q1)
        rw [lo _ (by omega) (by omega), q, J8 _ (by omega)]
      · have q := a2 j k (by omega) j1 q0 (by unfold HLen; rw [if_neg (by omega)]; exact q1)
        rw [lo _ (by omega) (by omega), q, J8 _ (by omega)]
      · rw [Int.zero_add]; exact w0 k q0 q1
      · rw [e82] at j1
        rw [e81, e82]
        have old := n4 (j + n) (by omega) (by omega)
        rw [show ((I 8 1 - n) % 16 - j) % 16 = (I 8 1 - (j + n)) % 16 by omega, show I 8 2 - n - j + 1 = I 8 2 - (j + n) + 1 by omega]
        exact HB_same old (fun i hi => ring _ (by omega) (by omega)) (fun k q0 q1 => w1 _ (by omega))
      · unfold Sd
        rw [lo 0 (by decide) (by decide), u0, ko 3 (by decide)]
        exact hI.2.2.2.1
