/-! BOTH SIDES DO THE SAME DEED: fitAll -/
theorem toAnch_1b {A : IM} {k p b : Int} (h4 : ¬ b = 4) (h5 : ¬ b = 5) : toAnch A k p 1 b = A 1 b := by
  rw [toAnch_brg, dropW_1 h5, brg_1 h4]
theorem P_all {Ia R : IM} {ch tr : Int → Int} {n : Nat} (h : PQ Ia R 0) (hn : Ia 1 5 = n) (h5 : Ia 1 4 + n ≤ 5) (hc : ∀ j : Int, 0 ≤ j → j < n → inE (Ia 1 0) (Ia 1 1) (ch j % 8) (ch j / 8) ∧ tr j = fsp (Ia 1 0) (ch j)) : ∀ m : Nat, m ≤ n → PQ (fa Ia ch m) (fm R tr m) m ∧ fa Ia ch m 1 0 = Ia 1 0 ∧ fa Ia ch m 1 1 = Ia 1 1
  | 0, _ => ⟨h, rfl, rfl⟩
  | m + 1, hm => by
    obtain ⟨i1, i2, i3⟩ := P_all h hn h5 hc m (by omega)
    obtain ⟨n5, n4, -⟩ := fa_n Ia ch m
    obtain ⟨c1, c2⟩ := hc m (by omega) (by omega)
    have s1 := P_moo (k := 0) (p := ch m) i1 (by omega) (by omega) (by omega) (by omega) (by rw [i2, i3]; exact c1)
    have s2 := P_drop s1 (by rw [brg_1 (by decide)]; omega)
    rw [i2, ← c2, Int.zero_add] at s2
    refine ⟨?_, ?_, ?_⟩
    · show PQ (toAnch (fa Ia ch m) 0 (ch m)) (moo (fm R tr m) m (tr m)) ((m + 1 : Nat) : Int)
      rw [toAnch_brg, show ((m + 1 : Nat) : Int) = (m : Int) + 1 by omega]
      exact s2
    · show toAnch (fa Ia ch m) 0 (ch m) 1 0 = _
      rw [toAnch_1b (by decide) (by decide), i2]
    · show toAnch (fa Ia ch m) 0 (ch m) 1 1 = _
      rw [toAnch_1b (by decide) (by decide), i3]
theorem P_end {A R : IM} {q : Int} (h : PQ A R q) (h5 : A 1 5 = 0) : PQ A (iup R 149 5 0) 0 := by
  obtain ⟨v, ⟨r0, r1, r2, r3, r4, r5⟩, rd, ra, rw', rp⟩ := h
  refine ⟨v, ⟨by rw [iup_ne (by omega)]; exact r0, by rw [iup_ne (by omega)]; exact r1, by rw [iup_ne (by omega)]; exact r2, by rw [iup_ne (by omega)]; exact r3, by rw [iup_ne (by omega)]; exact r4, by rw [iup_at]; omega⟩, fun j j0 j1 => by rw [iup_ne (by omega)]; exact rd j j0 j1, fun s s0 s1 => ?_, fun s s0 s1 => by omega, fun a a0 a1 => by rw [iup_ne (by omega)]; exact rp a a0 a1⟩
  rw [iup_ne (by omega), iup_ne (by omega), iup_ne (by omega)]
  exact ra s s0 s1
theorem fm_hi {R : IM} {tr : Int → Int} {b : Int} (hb : 90 ≤ b) : ∀ n : Nat, R 149 4 + n ≤ 5 → fm R tr n 149 b = R 149 b
  | 0, _ => rfl
  | n + 1, h => by
    show moo (fm R tr n) n (tr n) 149 b = _
    have := (fm_n R tr n).1
    rw [moo_hi (by omega) hb]
    exact fm_hi hb n (by omega)
theorem remM_kp {J I : IM} (h : Kp J I) : remM J 149 = remM I 149 ∧ ∀ b, ¬ b = 11 → remM J 148 b = remM I 148 b := by
  have e1 : J 148 1 = I 148 1 := h 148 1 (by decide) (by decide) (by decide) (by omega)
  have e9 : J 149 = I 149 := funext fun b => h 149 b (by decide) (by decide) (by decide) (by omega)
  refine ⟨funext fun b => ?_, fun b hb => ?_⟩
  · simp only [remM, if_true]
    rw [e1, e9]
  · by_cases q : b = 1
    · rw [q, remM_k, remM_k, e1]
    · rw [remM_8 q, remM_8 q]
      exact h 148 b (by decide) (by decide) (by decide) (by omega)
theorem Kp.lo {J I : IM} (h : Kp J I) {c : Nat} (hc : c < 148 ∨ c = 149 ∨ c = 150 ∨ c = 151 ∨ c = 152) : J c = I c := funext fun b => h c b (by omega) (by omega) (by omega) (by omega)
theorem J_fitAll {I I1 I2 : IM} {z z2 : Int} (hI : Inv I) (h : ((I 1 5 = 0 ∨ ¬ Exr (aG I) (aK I) (I 1 5).toNat 0 (fun _ => 0)) ∧ z = -1000000003 ∧ FrS I1 I) ∨ (¬ I 1 5 = 0 ∧ ∃ J, FrS J I ∧ Lea (aG I) (aK I) (I 1 5).toNat 0 (J 124) ∧ ((5 < I 1 4 + I 1 5 ∧ z = -1000000004 ∧ I1 = J) ∨ (¬ 5 < I 1 4 + I 1 5 ∧ z = I 1 5 ∧ ∃ Ia, RemC J Ia ∧ I1 = fa Ia (J 124) (I 1 5).toNat))))
    (g : ((I1 149 5 = 0 ∨ ¬ Exr (zG I1 0 (fun i => 5 + i)) (zK I1 (fun i => 5 + i)) (I1 149 5).toNat 0 (fun _ => 0)) ∧ z2 = -1000000003 ∧ Kp I2 I1) ∨ (¬ I1 149 5 = 0 ∧ ∃ J, Kp J I1 ∧ Lea (zG I1 0 (fun i => 5 + i)) (zK I1 (fun i => 5 + i)) (I1 149 5).toNat 0 (J 153) ∧ ((5 < I1 149 4 + I1 149 5 ∧ z2 = -1000000004 ∧ I2 = J) ∨ (¬ 5 < I1 149 4 + I1 149 5 ∧ z2 = I1 149 5 ∧ I2 = iup (fm (remM J) (J 153) (I1 149 5).toNat) 149 5 0)))) : z = z2 ∧ Inv I2 := by
  have hA := hI.1.1.1.2.2.2.2.1
  have hB := hI.1.1.1.2.2.2.2.2.1
  have i9 : I1 149 = I 149 := by
    rcases h with ⟨-, -, h3⟩ | ⟨-, J, hJ, -, ⟨-, -, h3⟩ | ⟨-, -, Ia, hR, h3⟩⟩
    · exact h3 149 (by decide) (by decide) (by decide)
    · rw [h3]; exact hJ 149 (by decide) (by decide) (by decide)
    · rw [h3, (fa_n _ _ _).2.2 149 (by omega), (RemC.both (Inv_frs hJ hI) hR).2]; exact hJ 149 (by decide) (by decide) (by decide)
  rw [i9, hI.1.n5, hI.1.n4, zG_eq i9, zK_eq i9] at g
  rw [aG_mG, aK_mK] at h
  have hs : ∀ i : Int, 0 ≤ i → i < (I 1 5).toNat → Slot1 I (5 + i) := fun i i0 i1 => Or.inr ⟨by omega, by omega⟩
  have ex := eEx hI.1 (set := 0) hs (fun _ => 0) (fun _ => 0)
  rcases h with ⟨h1, h2, h3⟩ | ⟨h0, J, hJ, hl, h⟩
  · rcases g with ⟨g1, g2, g3⟩ | ⟨g0, J2, hJ2, gl, -⟩
    · exact ⟨by rw [h2, g2], Inv_kp g3 (Inv_frs h3 hI)⟩
    · exfalso
      rcases h1 with h1 | h1
      · exact g0 h1
      · exact h1 (ex.mpr ((Exr_pre (by omega) (fun j j0 j1 => by omega)).mp (Lea_ex _ 0 _ (by omega) gl)))
  · rcases g with ⟨g1, g2, g3⟩ | ⟨g0, J2, hJ2, gl, g⟩
    · exfalso
      rcases g1 with g1 | g1
      · exact h0 g1
      · exact g1 (ex.mp ((Exr_pre (by omega) (fun j j0 j1 => by omega)).mp (Lea_ex _ 0 _ (by omega) hl)))
    · have hIJ := Inv_frs hJ hI
      rcases h with ⟨h4, h2, h3⟩ | ⟨h4, h2, Ia, hR, h3⟩
      · rcases g with ⟨g4, g2, g3⟩ | ⟨g4, -⟩
        · rw [g3]
          refine ⟨by rw [h2, g2], Inv_kp hJ2 ?_⟩
          rw [h3]; exact hIJ
        · exact absurd h4 g4
      · rcases g with ⟨g4, -⟩ | ⟨g4, g2, g3⟩
        · exact absurd g4 h4
        · refine ⟨by rw [h2, g2], ?_⟩
          have t := eLea hI.1 (set := 0) hs hl gl
          have lg := Lea_G _ 0 _ hl
          obtain ⟨f5, f4, fo⟩ := fa_n Ia (J 124) (I 1 5).toNat
          have j1 : J 1 = I 1 := hJ 1 (by decide) (by decide) (by decide)
          have a1 : Ia 1 = I 1 := (hR.lo (by decide)).trans j1
          have b8 := (RemC.both hIJ hR).1
          have i8 : I1 148 = J 148 := by rw [h3, fo 148 (by omega), b8]
          have i9J : I1 149 = J 149 := i9.trans (hJ 149 (by decide) (by decide) (by decide)).symm
          have hP : PQ Ia (remM J2) 0 := PQ_rem hIJ hR (by rw [hJ2 148 1 (by decide) (by decide) (by decide) (by omega), i8]) (by rw [Kp.lo hJ2 (by omega), i9J])
          have hQ := (P_all (ch := J 124) (tr := J2 153) (n := (I 1 5).toNat) hP (by rw [a1]; omega) (by rw [a1]; omega) (fun j j0 jn => ⟨by rw [a1]; exact (lg j j0 (by omega)).2.1.1, by rw [a1]; exact t j j0 jn⟩) (I 1 5).toNat (Nat.le_refl _)).1
          have hE := P_end hQ (by rw [f5, a1]; omega)
          rw [← h3, ← g3] at hE
          have kk := remM_kp hJ2
          have m4 : remM J2 149 4 = I 1 4 := by
            rw [kk.1, remM_lo (by rw [i8]; exact hIJ.k16) (Or.inl (by decide)), i9, hI.1.n4]
          refine deed hIJ hR (I1 := I1) (fun c q => by rw [h3]; exact fo c (by omega)) (fun c q => ?_) (fun b q => ?_) (fun b b0 _ => ?_) (PQ_cur.mp (PQ_cong hE (Int.le_refl 0) (by rw [h3, f5, a1]; omega) (fun c c0 c1 => ?_) (fun b _ => rfl)))
          · rw [g3, iup_other (by omega), (fm_n _ _ _).2 c (by omega), remM_o (by omega) (by omega), Kp.lo hJ2 (by omega)]
          · rw [g3, iup_other (by omega), (fm_n _ _ _).2 148 (by omega), kk.2 b q]
          · rw [g3, iup_ne (by omega), fm_hi b0 _ (by rw [m4]; omega), kk.1]
          · rw [g3, iup_other (by omega), (fm_n _ _ _).2 c (by omega), remM_o (by omega) (by omega), Kp.lo hJ2 (by omega)]
