/-! BOTH SIDES DO THE SAME DEED: keep, goBack -/
theorem orb_k : ∀ f, f < 4 → ∀ m, m < 2 → (0 ≤ orb (f : Nat) (m : Nat) ∧ orb (f : Nat) (m : Nat) ≤ 3) ∧ ∀ i, i < 2 → bt (orb (f : Nat) (m : Nat)) (i : Nat) = (decide (i = m) || bt (f : Nat) (i : Nat)) := by decide +kernel
theorem Cur_lo {I I2 : IM} (h : Cur I) (hc : ∀ c, 1 ≤ c → c ≤ 7 → I2 c = I c) (hw : ∀ b, b < 90 → I2 149 b = I 149 b) : Cur I2 := by
  refine Cur_sc h (fun c q0 q1 => hc c (by omega) q1) (fun b _ _ => by rw [hc 1 (by decide) (by decide)]) (fun b q0 _ _ _ => hw b q0) (by rw [hc 1 (by decide) (by decide), hw 2 (by decide)]; exact h.2.1.2.2.1) (by rw [hc 1 (by decide) (by decide), hw 3 (by decide)]; exact h.2.1.2.2.2.1) (by rw [hc 1 (by decide) (by decide)]; exact h.1.1.2.2.1) (by rw [hc 1 (by decide) (by decide)]; exact h.1.1.2.2.2.1) (fun k k0 k1 => ?_)
  rw [hc 2 (by decide) (by decide), hw (6 + k) (by omega)]
  exact ⟨h.1.1.2.2.2.2.2.2 k k0 k1, h.2.2.1 k k0 k1⟩
theorem J_goBack {I I1 I2 : IM} {i z z2 : Int} (hI : Inv I) (h : ((i < 0 ∨ 1 < i) ∧ z = -1000000001 ∧ I1 = I) ∨ (¬ (i < 0 ∨ 1 < i) ∧ I (132 + 8 * i.toNat) 2 = 0 ∧ z = -1000000003 ∧ I1 = I) ∨ (¬ (i < 0 ∨ 1 < i) ∧ ¬ I (132 + 8 * i.toNat) 2 = 0 ∧ z = 1 ∧ ∃ J, HC I (133 + 8 * i.toNat) 1 6 J ∧ I1 = iup (iup J 0 5 (J (132 + 8 * i.toNat) 1)) 8 2 0)) (g : (¬ (0 ≤ i ∧ i ≤ 1) ∧ z2 = -1000000001 ∧ I2 = I1) ∨ ((0 ≤ i ∧ i ≤ 1) ∧ ¬ bt (I1 148 2) i = true ∧ z2 = -1000000003 ∧ I2 = I1) ∨ ((0 ≤ i ∧ i ≤ 1) ∧ bt (I1 148 2) i = true ∧ z2 = 1 ∧ I2 = iup (iup (cpR I1 (1530 + 90 * i) 0 90) 148 3 (I1 150 i)) 148 1 0)) : z = z2 ∧ Inv I2 := by
  have hin : ¬ (i < 0 ∨ 1 < i) → I (132 + 8 * i.toNat) 2 = bi (bt (I 148 2) i = true) ∧ (bt (I 148 2) i = true → HB I (133 + 8 * i.toNat) (1530 + 90 * i) ∧ I (132 + 8 * i.toNat) 1 = I 150 i ∧ 0 ≤ I 150 i ∧ I 150 i ≤ 2147483647) := fun q => by
    have := hI.2.2.1.2 i.toNat (by omega)
    rw [Int.toNat_of_nonneg (show 0 ≤ i by omega)] at this
    exact this
  rcases h with ⟨h1, h2, h3⟩ | ⟨h0, h1, h2, h3⟩ | ⟨h0, h1, h2, J, ⟨a1, a2, a3⟩, h3⟩
  · rcases g with ⟨g1, g2, g3⟩ | ⟨g1, -⟩ | ⟨g1, -⟩
    · rw [g3, h3]; exact ⟨by rw [h2, g2], hI⟩
    · omega
    · omega
  · rw [h3] at g
    rcases g with ⟨g1, -⟩ | ⟨g0, g1, g2, g3⟩ | ⟨g0, g1, -⟩
    · omega
    · rw [g3]; exact ⟨by rw [h2, g2], hI⟩
    · rw [(hin h0).1, bi_t g1] at h1
      omega
  · obtain ⟨t1, t2⟩ := hin h0
    have hb : bt (I 148 2) i = true := Classical.not_not.mp (fun y => h1 (by rw [t1, bi_f y]))
    obtain ⟨t3, t4, t5⟩ := t2 hb
    have up : ∀ c, 8 < c → I1 c = I c := fun c hc => by rw [h3, iup_other (by omega), iup_other (by omega), a3 c (by omega)]
    have i8 := up 148 (by omega)
    have i9 := up 149 (by omega)
    rcases g with ⟨g1, -⟩ | ⟨g0, g1, -⟩ | ⟨g0, g1, g2, g3⟩
    · omega
    · rw [i8] at g1; exact absurd hb g1
    · have lo : ∀ c, ¬ c = 148 → ¬ c = 149 → I2 c = I1 c := fun c q0 q1 => by rw [g3, iup_other q0, iup_other q0, cpR_o q1]
      have hi : ∀ c, 8 < c → ¬ c = 148 → ¬ c = 149 → I2 c = I c := fun c q0 q1 q2 => (lo c q1 q2).trans (up c q0)
      have e81 : I2 8 1 = I 8 1 := by rw [lo 8 (by decide) (by decide), h3, iup_ne (by omega), iup_other (by decide), a3 8 (by omega)]
      have e82 : I2 8 2 = 0 := by rw [lo 8 (by decide) (by decide), h3, iup_at]
      have k1 : I2 148 1 = 0 := by rw [g3, iup_at]
      have k3 : I2 148 3 = I 150 i := by rw [g3, iup_ne (by omega), iup_at, up 150 (by omega)]
      have ko : ∀ b, ¬ b = 1 → ¬ b = 3 → I2 148 b = I 148 b := fun b q1 q3 => by rw [g3, iup_ne (fun y => q1 y.2), iup_ne (fun y => q3 y.2), cpR_o (by decide), i8]
      have w0 : ∀ k, 0 ≤ k → k < 90 → I2 149 k = I 149 (1530 + 90 * i + k) := fun k q0 q1 => by
        rw [g3, iup_other (by decide), iup_other (by decide)]
        simp only [cpR, true_and]
        rw [if_pos (by omega), i9]
        congr 1; omega
      have w1 : ∀ k, 90 ≤ k → I2 149 k = I 149 k := fun k q0 => by
        rw [g3, iup_other (by decide), iup_other (by decide)]
        simp only [cpR, true_and]
        rw [if_neg (by omega), i9]
      have low : ∀ c, 1 ≤ c → c ≤ 7 → I2 c = J c := fun c q0 q1 => by rw [lo c (by omega) (by omega), h3, iup_other (by omega), iup_other (by omega)]
      have e05 : I2 0 5 = I 150 i := by rw [lo 0 (by decide) (by decide), h3, iup_other (by decide), iup_at, a3 _ (by omega)]; exact t4
      have n1 := hI.2.1.1
      refine ⟨by rw [h2, g2], HB_0.mp (HB_tr t3 (fun k q0 q1 => by rw [low 1 (by decide) (by decide)]; exact a1 k q0 q1) (fun k q0 q1 => ?_) (fun j k j0 j1 q0 q1 => ?_) (fun k q0 q1 => by rw [Int.zero_add]; exact w0 k q0 q1)), ⟨by omega, by omega, by omega, fun j j0 j1 => by omega⟩, Img_eq (fun c q0 q1 => hi c (by omega) (by omega) (by omega)) (ko 2 (by decide) (by decide)) (fun b q0 _ => w1 b (by omega)) (hi 150 (by omega) (by decide) (by decide)) hI.2.2.1, ⟨by rw [e05, k3], by rw [k3]; exact t5.1, by rw [k3]; exact t5.2⟩, Bk_eq (fun c q0 q1 => hi c (by omega) (by omega) (by omega)) (ko 7 (by decide) (by decide)) (hi 151 (by omega) (by decide) (by decide)) (hi 152 (by omega) (by decide) (by decide)) hI.2.2.2.2⟩
      · have q := a2 1 k (by decide) (by decide) q0 (by show k < HLen 1; unfold HLen; rw [if_pos rfl]; exact q1)
        rw [low _ (by omega) (by omega)]
        exact q
      · have q := a2 j k (by omega) j1 q0 (by unfold HLen; rw [if_neg (by omega)]; exact q1)
        rw [low _ (by omega) (by omega)]
        exact q
