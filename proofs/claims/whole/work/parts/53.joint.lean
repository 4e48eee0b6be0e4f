/-! BOTH SIDES DO THE SAME DEED: keep -/
theorem J_keep {I I1 I2 : IM} {i z z2 : Int} (hI : Inv I) (h : ((i < 0 ∨ 1 < i) ∧ z = -1000000001 ∧ I1 = I) ∨ (¬ (i < 0 ∨ 1 < i) ∧ z = 1 ∧ ∃ J, HC I 1 (133 + 8 * i.toNat) 6 J ∧ I1 = iup (iup (iup J (132 + 8 * i.toNat) 1 (I 0 5)) (132 + 8 * i.toNat) 2 1) 8 2 0)) (g : (¬ (0 ≤ i ∧ i ≤ 1) ∧ z2 = -1000000001 ∧ I2 = I1) ∨ ((0 ≤ i ∧ i ≤ 1) ∧ z2 = 1 ∧ I2 = iup (iup (iup (cpR I1 0 (1530 + 90 * i) 90) 150 i (I1 148 3)) 148 2 (orb (I1 148 2) i)) 148 1 0)) : z = z2 ∧ Inv I2 := by
  rcases h with ⟨h1, h2, h3⟩ | ⟨h0, h2, J, ⟨a1, a2, a3⟩, h3⟩
  · rcases g with ⟨g1, g2, g3⟩ | ⟨g1, -⟩
    · rw [g3, h3]; exact ⟨by rw [h2, g2], hI⟩
    · omega
  · rcases g with ⟨g1, -⟩ | ⟨g0, g2, g3⟩
    · omega
    · obtain ⟨m, hm⟩ : ∃ m : Nat, i = (m : Int) := ⟨i.toNat, by omega⟩
      have hm2 : m < 2 := by omega
      subst hm
      rw [show ((m : Int)).toNat = m by omega] at a1 a2 a3 h3
      have oth : ∀ c, ¬ c = 8 → (c < 132 + 8 * m ∨ 139 + 8 * m < c) → I1 c = I c := fun c q0 q1 => by rw [h3, iup_other q0, iup_other (by omega), iup_other (by omega), a3 c (by omega)]
      have i8 := oth 148 (by decide) (by omega)
      have i9 := oth 149 (by decide) (by omega)
      have i0 := oth 0 (by decide) (by omega)
      have lo : ∀ c, ¬ c = 148 → ¬ c = 149 → ¬ c = 150 → I2 c = I1 c := fun c q0 q1 q2 => by rw [g3, iup_other q0, iup_other q0, iup_other q2, cpR_o q1]
      have e81 : I2 8 1 = I 8 1 := by rw [lo 8 (by decide) (by decide) (by decide), h3, iup_ne (by omega), iup_other (by omega), iup_other (by omega), a3 8 (by omega)]
      have e82 : I2 8 2 = 0 := by rw [lo 8 (by decide) (by decide) (by decide), h3, iup_at]
      have k1 : I2 148 1 = 0 := by rw [g3, iup_at]
      have k2 : I2 148 2 = orb (I 148 2) m := by rw [g3, iup_ne (by omega), iup_at, i8]
      have ko : ∀ b, ¬ b = 1 → ¬ b = 2 → I2 148 b = I 148 b := fun b q1 q3 => by rw [g3, iup_ne (fun y => q1 y.2), iup_ne (fun y => q3 y.2), iup_other (by decide), cpR_o (by decide), i8]
      have wn : ∀ k, 0 ≤ k → k < 90 → I2 149 (1530 + 90 * (m : Int) + k) = I 149 k := fun k q0 q1 => by
        rw [g3, iup_other (by decide), iup_other (by decide), iup_other (by decide)]
        simp only [cpR, true_and]
        rw [if_pos (by omega), i9]
        congr 1; omega
      have wo : ∀ k, (k < 1530 + 90 * (m : Int) ∨ 1530 + 90 * (m : Int) + 90 ≤ k) → I2 149 k = I 149 k := fun k q0 => by
        rw [g3, iup_other (by decide), iup_other (by decide), iup_other (by decide)]
        simp only [cpR, true_and]
        rw [if_neg (by omega), i9]
      have f0 : I2 150 (m : Int) = I 148 3 := by rw [g3, iup_other (by decide), iup_other (by decide), iup_at, i8]
      have f1 : ∀ b, ¬ b = (m : Int) → I2 150 b = I 150 b := fun b hb => by rw [g3, iup_other (by decide), iup_other (by decide), iup_ne (fun y => hb y.2), cpR_o (by decide), oth 150 (by decide) (by omega)]
      have s1 : I2 (132 + 8 * m) 1 = I 0 5 := by rw [lo _ (by omega) (by omega) (by omega), h3, iup_other (by omega), iup_ne (by omega), iup_at]
      have s2 : I2 (132 + 8 * m) 2 = 1 := by rw [lo _ (by omega) (by omega) (by omega), h3, iup_other (by omega), iup_at]
      have n1 := hI.2.1.1
      obtain ⟨f, hf⟩ : ∃ f : Nat, I 148 2 = (f : Int) := ⟨(I 148 2).toNat, by have := hI.2.2.1.1; omega⟩
      have hf4 : f < 4 := by have := hI.2.2.1.1; omega
      obtain ⟨o1, o2⟩ := orb_k f hf4 m hm2
      have sh : ∀ c, 133 + 8 * m ≤ c → c ≤ 139 + 8 * m → I2 c = J c := fun c q0 q1 => by rw [lo c (by omega) (by omega) (by omega), h3, iup_other (by omega), iup_other (by omega), iup_other (by omega)]
      refine ⟨by rw [h2, g2], Cur_lo hI.1 (fun c q0 q1 => (lo c (by omega) (by omega) (by omega)).trans (oth c (by omega) (by omega))) (fun b q0 => wo b (by omega)), ⟨by omega, by omega, by omega, fun j j0 j1 => by omega⟩, ⟨by rw [k2, hf]; exact o1, fun t ht => ?_⟩, ?_, Bk_eq (fun c q0 q1 => (lo c (by omega) (by omega) (by omega)).trans (oth c (by omega) (by omega))) (ko 7 (by decide) (by decide)) ((lo 151 (by decide) (by decide) (by decide)).trans (oth 151 (by decide) (by omega))) ((lo 152 (by decide) (by decide) (by decide)).trans (oth 152 (by decide) (by omega))) hI.2.2.2.2⟩
      · rw [k2, hf, o2 t ht]
        by_cases htm : t = m
        · subst htm
          have hsd := hI.2.2.2.1
          refine ⟨by rw [s2, bi_t (by simp)], fun _ => ⟨HB_tr (HB_0.mpr hI.1) (fun k q0 q1 => ?_) (fun k q0 q1 => ?_) (fun j k j0 j1 q0 q1 => ?_) (fun k q0 q1 => by rw [Int.zero_add]; exact wn k q0 q1), by rw [s1, f0]; exact hsd.1, by rw [f0]; exact hsd.2.1, by rw [f0]; exact hsd.2.2⟩⟩
          · rw [sh _ (by omega) (by omega)]; exact a1 k q0 q1
          · have q := a2 1 k (by decide) (by decide) q0 (by show k < HLen 1; unfold HLen; rw [if_pos rfl]; exact q1)
            rw [sh _ (by omega) (by omega)]
            exact q
          · have q := a2 j k (by omega) j1 q0 (by unfold HLen; rw [if_neg (by omega)]; exact q1)
            rw [sh _ (by omega) (by omega)]
            exact q
        · have old := hI.2.2.1.2 t ht
          rw [hf] at old
          have ed : (decide (t = m) || bt (f : Int) (t : Int)) = bt (f : Int) (t : Int) := by simp [htm]
          rw [ed, (lo (132 + 8 * t) (by omega) (by omega) (by omega)).trans (oth _ (by omega) (by omega)), f1 (t : Int) (by omega)]
          refine ⟨old.1, fun hb => ?_⟩
          obtain ⟨p1, p2⟩ := old.2 hb
          exact ⟨HB_same p1 (fun j hj => (lo _ (by omega) (by omega) (by omega)).trans (oth _ (by omega) (by omega))) (fun k q0 q1 => wo _ (by omega)), p2⟩
      · unfold Sd
        rw [(lo 0 (by decide) (by decide) (by decide)).trans i0, ko 3 (by decide) (by decide)]
        exact hI.2.2.2.1
