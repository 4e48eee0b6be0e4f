/-! THE REFERENCE: the least water, clashes, danger, threats, free places -/
theorem sq4 {s : Int} (h : 1 ≤ s ∧ s ≤ 2) : s * s = 1 ∧ s = 1 ∨ s * s = 4 ∧ s = 2 := by
  have h2 : s = 1 ∨ s = 2 := by omega
  rcases h2 with rfl | rfl <;> omega
theorem sq_mod {s k : Int} (h : 1 ≤ s ∧ s ≤ 2) (h0 : 0 ≤ k) (h1 : k < s * s) : (0 ≤ k % s ∧ k % s < s) ∧ 0 ≤ k / s ∧ k / s < s := by
  have h2 : s = 1 ∨ s = 2 := by omega
  rcases h2 with rfl | rfl <;> omega
theorem sq_at {s u v : Int} (h : 1 ≤ s ∧ s ≤ 2) (hu : 0 ≤ u ∧ u < s) (hv : 0 ≤ v ∧ v < s) : ∃ k, (0 ≤ k ∧ k < s * s) ∧ k % s = u ∧ k / s = v := by
  have h2 : s = 1 ∨ s = 2 := by omega
  rcases h2 with rfl | rfl
  · exact ⟨0, by omega, by omega, by omega⟩
  · exact ⟨v * 2 + u, by omega, by omega, by omega⟩
section MOB
variable {xs : RO} {d : Nat} {I : IM} {L : LM}

theorem c_Mod_leastWater {p c t : Int} (hI : MI0 I) (hp : MP I p) (hc : mC I c) (ht : t = 0 ∨ t = 1) : Wk xs x_Mod_leastWater (d + 3) 0 0  0 [some (vr 148), some (vi p), some (vi c), some (vi t), none, none, none, none, none, none] [] X2 I L (p2 fun v I' L' => (∃ z, v = some (vi z) ∧ MinOf 100 (fun v => ∃ u cx cy, (0 ≤ u ∧ u < 8) ∧ bt (I 149 3) u = true ∧ mLO I p c u cx cy ∧ v = mval I t cx cy) z ∧ -1 ≤ z ∧ z ≤ 100) ∧ I' = I ∧ L' = L) := by
  obtain ⟨hW, hH, hT, hF, hA, hK, hD⟩ := id hI
  obtain ⟨hp0, hdr, hch, hsd⟩ := id hp
  obtain ⟨hc0, hc1⟩ := id hc
  have h49 := WH49 (W := I 149 0) (H := I 149 1) (by omega) (by omega)
  obtain ⟨hcx, hcy⟩ := mcoord hW.1 hc0 hc1
  have hsq := sq4 hsd
  have key : Wk xs x_Mod_leastWater (d + 3) 0 0  7 [some (vr 148), some (vi p), some (vi c), some (vi t), some (vi 100), some (vi 0), none, none, none, none] [] X2 I L (p2 fun v I' L' => (∃ z, v = some (vi z) ∧ MinOf 100 (fun v => ∃ u cx cy, (0 ≤ u ∧ u < 8) ∧ bt (I 149 3) u = true ∧ mLO I p c u cx cy ∧ v = mval I t cx cy) z ∧ -1 ≤ z ∧ z ≤ 100) ∧ I' = I ∧ L' = L) := by
    refine loopS (σ := Int × Option AV × Option AV × Option AV × Option AV) (fun w s => Wk xs x_Mod_leastWater (d + 3) 0 0  7 [some (vr 148), some (vi p), some (vi c), some (vi t), some (vi s.1), some (vi w), s.2.1, s.2.2.1, s.2.2.2.1, s.2.2.2.2] [] X2 I L (p2 fun v I' L' => (∃ z, v = some (vi z) ∧ MinOf 100 (fun v => ∃ u cx cy, (0 ≤ u ∧ u < 8) ∧ bt (I 149 3) u = true ∧ mLO I p c u cx cy ∧ v = mval I t cx cy) z ∧ -1 ≤ z ∧ z ≤ 100) ∧ I' = I ∧ L' = L)) (fun w s => MinOf 100 (fun v => ∃ u cx cy, (0 ≤ u ∧ u < w) ∧ bt (I 149 3) u = true ∧ mLO I p c u cx cy ∧ v = mval I t cx cy) s.1 ∧ -1 ≤ s.1 ∧ s.1 ≤ 100) 8 0 (100, none, none, none, none) (by omega) ⟨MinOf.none (fun v hv => by obtain ⟨w, cx, cy, q1, q2⟩ := hv; omega), by omega, by omega⟩ ?_ ?_
    · intro s hJ
      obtain ⟨m, o6, o7, o8, o9⟩ := s
      obtain ⟨hJ, hm0, hm1⟩ := hJ
      simp only at hJ hm0 hm1 ⊢
      refine Wk.iload (i := 5) (q := 9) (by decide +kernel) rfl rfl ?_
      refine Wk.bipush (n := 8) (q := 11) (by decide +kernel) (by decide +kernel) rfl ?_
      refine Wk.icmp_ge (off := (143)) (t := 154) (q := 14) (by decide +kernel) (by decide) rfl (by first | omega | exact bi_rng _) (by first | omega | exact bi_rng _) (fun hc11 => ?_) (fun hc11 => ?_)
      · refine Wk.iload (i := 4) (q := 156) (by decide +kernel) rfl rfl ?_
        exact Wk.riP (by decide +kernel) rfl (⟨⟨m, rfl, hJ, hm0, hm1⟩, rfl, rfl⟩)
      · omega
    · intro w s w0 w1 hJ ih
      obtain ⟨m, o6, o7, o8, o9⟩ := s
      obtain ⟨hJ, hm0, hm1⟩ := hJ
      simp only at hJ hm0 hm1 ⊢
      have m1 := mulB hch (windX_r w)
      have m2 := mulB hch (windY_r w)
      refine Wk.iload (i := 5) (q := 9) (by decide +kernel) rfl rfl ?_
      refine Wk.bipush (n := 8) (q := 11) (by decide +kernel) (by decide +kernel) rfl ?_
      refine Wk.icmp_ge (off := (143)) (t := 154) (q := 14) (by decide +kernel) (by decide) rfl (by first | omega | exact bi_rng _) (by first | omega | exact bi_rng _) (fun hc11 => ?_) (fun hc11 => ?_)
      · omega
      · have key2 : ∀ o7 o8 o9, Wk xs x_Mod_leastWater (d + 3) 0 0  17 [some (vr 148), some (vi p), some (vi c), some (vi t), some (vi m), some (vi w), some (vi 0), o7, o8, o9] [] X2 I L (p2 fun v I' L' => (∃ z, v = some (vi z) ∧ MinOf 100 (fun v => ∃ u cx cy, (0 ≤ u ∧ u < 8) ∧ bt (I 149 3) u = true ∧ mLO I p c u cx cy ∧ v = mval I t cx cy) z ∧ -1 ≤ z ∧ z ≤ 100) ∧ I' = I ∧ L' = L) := by
          intro o7 o8 o9
          refine loopS (σ := Int × Option AV × Option AV × Option AV) (fun k s => Wk xs x_Mod_leastWater (d + 3) 0 0  17 [some (vr 148), some (vi p), some (vi c), some (vi t), some (vi s.1), some (vi w), some (vi k), s.2.1, s.2.2.1, s.2.2.2] [] X2 I L (p2 fun v I' L' => (∃ z, v = some (vi z) ∧ MinOf 100 (fun v => ∃ u cx cy, (0 ≤ u ∧ u < 8) ∧ bt (I 149 3) u = true ∧ mLO I p c u cx cy ∧ v = mval I t cx cy) z ∧ -1 ≤ z ∧ z ≤ 100) ∧ I' = I ∧ L' = L)) (fun k s => (0 < k → bt (I 149 3) w = true) ∧ MinOf 100 (fun v => ((fun v => ∃ u cx cy, (0 ≤ u ∧ u < w) ∧ bt (I 149 3) u = true ∧ mLO I p c u cx cy ∧ v = mval I t cx cy)) v ∨ ∃ j, (0 ≤ j ∧ j < k) ∧ v = mval I t ((c % I 149 0 + I 149 (p + 1) * windX w) + j % I 149 (p + 2)) ((c / I 149 0 + I 149 (p + 1) * windY w) + j / I 149 (p + 2))) s.1 ∧ -1 ≤ s.1 ∧ s.1 ≤ 100) (I 149 (p + 2) * I 149 (p + 2)) 0 (m, o7, o8, o9) (by omega) ⟨fun z => by omega, hJ.cong (fun v => ⟨fun q => Or.inl q, fun q => q.elim id (fun ⟨j, q1, q2⟩ => by omega)⟩), hm0, hm1⟩ ?_ ?_
          · intro s hM
            obtain ⟨m, o7, o8, o9⟩ := s
            obtain ⟨hb, hM, hm0, hm1⟩ := hM
            simp only at hM hm0 hm1 ⊢
            have hb := hb (by omega)
            refine Wk.iload (i := 6) (q := 19) (by decide +kernel) rfl rfl ?_
            refine Wk.aload_n (k := 0) (q := 20) (by decide +kernel) rfl rfl rfl ?_
            refine Wk.getR (r := 149) (q := 23) f_Mod_7 (by decide +kernel) O_148 (by decide) rfl rfl rfl ?_
            refine Wk.iload_n (k := 1) (q := 24) (by decide +kernel) rfl rfl rfl ?_
            refine Wk.iconst (n := 2) (q := 25) (by decide +kernel) rfl ?_
            refine Wk.iadd (q := 26) (by decide +kernel) rfl ?_
            refine Wk.iaload (q := 27) (by decide +kernel) A_149 (by first | omega | exact bi_rng _) (by first | omega | exact bi_rng _) rfl ?_
            refine Wk.aload_n (k := 0) (q := 28) (by decide +kernel) rfl rfl rfl ?_
            refine Wk.getR (r := 149) (q := 31) f_Mod_7 (by decide +kernel) O_148 (by decide) rfl rfl rfl ?_
            refine Wk.iload_n (k := 1) (q := 32) (by decide +kernel) rfl rfl rfl ?_
            refine Wk.iconst (n := 2) (q := 33) (by decide +kernel) rfl ?_
            refine Wk.iadd (q := 34) (by decide +kernel) rfl ?_
            refine Wk.iaload (q := 35) (by decide +kernel) A_149 (by first | omega | exact bi_rng _) (by first | omega | exact bi_rng _) rfl ?_
            refine Wk.imul (q := 36) (by decide +kernel) rfl ?_
            refine Wk.icmp_ge (off := (112)) (t := 148) (q := 39) (by decide +kernel) (by decide) rfl (by first | omega | exact bi_rng _) (by first | omega | exact bi_rng _) (fun hc36 => ?_) (fun hc36 => ?_)
            · refine Wk.iinc (i := 5) (n := 1) (q := 151) (by decide +kernel) rfl (by decide) rfl (fun _ h => h) rfl ?_
              refine Wk.goto (off := (-144)) (q := 7) (by decide +kernel) (by decide) ?_
              refine ih (m, _, _, _, _) ⟨hM.cong (fun v => ⟨fun q => q.elim (fun ⟨u, cx, cy, q1, q2⟩ => ⟨u, cx, cy, by omega, q2⟩) (fun ⟨j, q1, q2⟩ => ?_), fun ⟨u, cx, cy, q1, q2, q3, q4⟩ => ?_⟩), hm0, hm1⟩
              · have hj := sq_mod hsd q1.1 q1.2
                exact ⟨w, _, _, by omega, hb, by unfold mLO LO; omega, q2⟩
              · rcases Classical.em (u = w) with e | e
                · subst e
                  obtain ⟨j, j0, j1, j2⟩ := sq_at (u := cx - (c % I 149 0 + I 149 (p + 1) * windX u)) (v := cy - (c / I 149 0 + I 149 (p + 1) * windY u)) hsd (by unfold mLO LO at q3; omega) (by unfold mLO LO at q3; omega)
                  refine Or.inr ⟨j, j0, ?_⟩
                  rw [j1, j2, q4]
                  congr 1 <;> omega
                · exact Or.inl ⟨u, cx, cy, by omega, q2, q3, q4⟩
            · omega
          · intro k s k0 k1 hM ih2
            obtain ⟨m, o7, o8, o9⟩ := s
            obtain ⟨hb, hM, hm0, hm1⟩ := hM
            simp only at hM hm0 hm1 ⊢
            have hj := sq_mod hsd k0 k1
            have hv := mval_range hI t ((c % I 149 0 + I 149 (p + 1) * windX w) + k % I 149 (p + 2)) ((c / I 149 0 + I 149 (p + 1) * windY w) + k / I 149 (p + 2))
            refine Wk.iload (i := 6) (q := 19) (by decide +kernel) rfl rfl ?_
            refine Wk.aload_n (k := 0) (q := 20) (by decide +kernel) rfl rfl rfl ?_
            refine Wk.getR (r := 149) (q := 23) f_Mod_7 (by decide +kernel) O_148 (by decide) rfl rfl rfl ?_
            refine Wk.iload_n (k := 1) (q := 24) (by decide +kernel) rfl rfl rfl ?_
            refine Wk.iconst (n := 2) (q := 25) (by decide +kernel) rfl ?_
            refine Wk.iadd (q := 26) (by decide +kernel) rfl ?_
            refine Wk.iaload (q := 27) (by decide +kernel) A_149 (by first | omega | exact bi_rng _) (by first | omega | exact bi_rng _) rfl ?_
            refine Wk.aload_n (k := 0) (q := 28) (by decide +kernel) rfl rfl rfl ?_
            refine Wk.getR (r := 149) (q := 31) f_Mod_7 (by decide +kernel) O_148 (by decide) rfl rfl rfl ?_
            refine Wk.iload_n (k := 1) (q := 32) (by decide +kernel) rfl rfl rfl ?_
            refine Wk.iconst (n := 2) (q := 33) (by decide +kernel) rfl ?_
            refine Wk.iadd (q := 34) (by decide +kernel) rfl ?_
            refine Wk.iaload (q := 35) (by decide +kernel) A_149 (by first | omega | exact bi_rng _) (by first | omega | exact bi_rng _) rfl ?_
            refine Wk.imul (q := 36) (by decide +kernel) rfl ?_
            refine Wk.icmp_ge (off := (112)) (t := 148) (q := 39) (by decide +kernel) (by decide) rfl (by first | omega | exact bi_rng _) (by first | omega | exact bi_rng _) (fun hc36 => ?_) (fun hc36 => ?_)
            · refine Wk.iinc (i := 5) (n := 1) (q := 151) (by decide +kernel) rfl (by decide) rfl (fun _ h => h) rfl ?_
              refine Wk.goto (off := (-144)) (q := 7) (by decide +kernel) (by decide) ?_
              first
                | omega
                | (have k00 : k = 0 := Classical.not_not.mp (fun z => hc50 (hb (by omega)))
                   subst k00
                   refine ih (m, _, _, _, _) ⟨hM.cong (fun v => ⟨fun q => q.elim (fun ⟨u, cx, cy, q1, q2⟩ => ⟨u, cx, cy, by omega, q2⟩) (fun ⟨j, q1, q2⟩ => by omega), fun ⟨u, cx, cy, q1, q2, q3, q4⟩ => ?_⟩), hm0, hm1⟩
                   rcases Classical.em (u = w) with e | e
                   · subst e
                     exact absurd q2 hc50
                   · exact Or.inl ⟨u, cx, cy, by omega, q2, q3, q4⟩)
            · refine Wk.aload_n (k := 0) (q := 40) (by decide +kernel) rfl rfl rfl ?_
              refine Wk.getR (r := 149) (q := 43) f_Mod_7 (by decide +kernel) O_148 (by decide) rfl rfl rfl ?_
              refine Wk.iconst (n := 3) (q := 44) (by decide +kernel) rfl ?_
              refine Wk.iaload (q := 45) (by decide +kernel) A_149 (by first | omega | exact bi_rng _) (by first | omega | exact bi_rng _) rfl ?_
              refine Wk.iload (i := 5) (q := 47) (by decide +kernel) rfl rfl ?_
              refine Wk.cSi (q := 50) l_Mod_58 m_Mod_has (by decide +kernel) (fun _ h => h) (Nat.le_of_ble_eq_true rfl) (Nat.le_of_ble_eq_true rfl) rfl (c_Mod_has (by omega) (by omega) (by omega) (by omega)) rfl ?_
              refine Wk.ifB_eq (off := (98)) (t := 148) (q := 53) (by decide +kernel) (by decide) rfl (fun hc50 => ?_) (fun hc50 => ?_)
              · refine Wk.iinc (i := 5) (n := 1) (q := 151) (by decide +kernel) rfl (by decide) rfl (fun _ h => h) rfl ?_
                refine Wk.goto (off := (-144)) (q := 7) (by decide +kernel) (by decide) ?_
                first
                  | omega
                  | (have k00 : k = 0 := Classical.not_not.mp (fun z => hc50 (hb (by omega)))
                     subst k00
                     refine ih (m, _, _, _, _) ⟨hM.cong (fun v => ⟨fun q => q.elim (fun ⟨u, cx, cy, q1, q2⟩ => ⟨u, cx, cy, by omega, q2⟩) (fun ⟨j, q1, q2⟩ => by omega), fun ⟨u, cx, cy, q1, q2, q3, q4⟩ => ?_⟩), hm0, hm1⟩
                     rcases Classical.em (u = w) with e | e
                     · subst e
                       exact absurd q2 hc50
                     · exact Or.inl ⟨u, cx, cy, by omega, q2, q3, q4⟩)
              · refine Wk.aload_n (k := 0) (q := 54) (by decide +kernel) rfl rfl rfl ?_
                refine Wk.iload_n (k := 1) (q := 55) (by decide +kernel) rfl rfl rfl ?_
                refine Wk.iload_n (k := 2) (q := 56) (by decide +kernel) rfl rfl rfl ?_
                refine Wk.iload (i := 5) (q := 58) (by decide +kernel) rfl rfl ?_
                refine Wk.cVi (q := 61) l_Mod_51 m_Mod_left (by decide +kernel) (fun _ h => h) O_148 rfl (Nat.le_of_ble_eq_true rfl) (Nat.le_of_ble_eq_true rfl) rfl (c_Mod_left hI hp hc (by omega) (by omega)) rfl ?_
                refine Wk.iload (i := 6) (q := 63) (by decide +kernel) rfl rfl ?_
                refine Wk.aload_n (k := 0) (q := 64) (by decide +kernel) rfl rfl rfl ?_
                refine Wk.getR (r := 149) (q := 67) f_Mod_7 (by decide +kernel) O_148 (by decide) rfl rfl rfl ?_
                refine Wk.iload_n (k := 1) (q := 68) (by decide +kernel) rfl rfl rfl ?_
                refine Wk.iconst (n := 2) (q := 69) (by decide +kernel) rfl ?_
                refine Wk.iadd (q := 70) (by decide +kernel) rfl ?_
                refine Wk.iaload (q := 71) (by decide +kernel) A_149 (by first | omega | exact bi_rng _) (by first | omega | exact bi_rng _) rfl ?_
                refine Wk.irem (q := 72) (by decide +kernel) (by first | omega | exact bi_rng _) (by first | omega | exact bi_rng _) rfl ?_
                refine Wk.iadd (q := 73) (by decide +kernel) rfl ?_
                refine Wk.istore (i := 7) (q := 75) (by decide +kernel) (by decide) rfl (fun _ h => h) rfl ?_
                refine Wk.aload_n (k := 0) (q := 76) (by decide +kernel) rfl rfl rfl ?_
                refine Wk.iload_n (k := 1) (q := 77) (by decide +kernel) rfl rfl rfl ?_
                refine Wk.iload_n (k := 2) (q := 78) (by decide +kernel) rfl rfl rfl ?_
                refine Wk.iload (i := 5) (q := 80) (by decide +kernel) rfl rfl ?_
                refine Wk.cVi (q := 83) l_Mod_55 m_Mod_top (by decide +kernel) (fun _ h => h) O_148 rfl (Nat.le_of_ble_eq_true rfl) (Nat.le_of_ble_eq_true rfl) rfl (c_Mod_top hI hp hc (by omega) (by omega)) rfl ?_
                refine Wk.iload (i := 6) (q := 85) (by decide +kernel) rfl rfl ?_
                refine Wk.aload_n (k := 0) (q := 86) (by decide +kernel) rfl rfl rfl ?_
                refine Wk.getR (r := 149) (q := 89) f_Mod_7 (by decide +kernel) O_148 (by decide) rfl rfl rfl ?_
                refine Wk.iload_n (k := 1) (q := 90) (by decide +kernel) rfl rfl rfl ?_
                refine Wk.iconst (n := 2) (q := 91) (by decide +kernel) rfl ?_
                refine Wk.iadd (q := 92) (by decide +kernel) rfl ?_
                refine Wk.iaload (q := 93) (by decide +kernel) A_149 (by first | omega | exact bi_rng _) (by first | omega | exact bi_rng _) rfl ?_
                refine Wk.idiv (q := 94) (by decide +kernel) (by first | omega | exact bi_rng _) (by first | omega | exact bi_rng _) rfl ?_
                refine Wk.iadd (q := 95) (by decide +kernel) rfl ?_
                refine Wk.istore (i := 8) (q := 97) (by decide +kernel) (by decide) rfl (fun _ h => h) rfl ?_
                refine Wk.aload_n (k := 0) (q := 98) (by decide +kernel) rfl rfl rfl ?_
                refine Wk.iload (i := 7) (q := 100) (by decide +kernel) rfl rfl ?_
                refine Wk.iload (i := 8) (q := 102) (by decide +kernel) rfl rfl ?_
                refine Wk.cVi (q := 105) l_Mod_40 m_Mod_isCell (by decide +kernel) (fun _ h => h) O_148 rfl (Nat.le_of_ble_eq_true rfl) (Nat.le_of_ble_eq_true rfl) rfl (c_Mod_isCell (by omega) (by omega) hI) rfl ?_
                refine Wk.ifB_ne (off := (7)) (t := 112) (q := 108) (by decide +kernel) (by decide) rfl (fun hc105 => ?_) (fun hc105 => ?_)
                · have ev := mval_in (I := I) (t := t) (x := (c % I 149 0 + I 149 (p + 1) * windX w) + k % I 149 (p + 2)) (y := (c / I 149 0 + I 149 (p + 1) * windY w) + k / I 149 (p + 2)) (by first | exact Or.inl hc105 | exact Or.inr hc109)
                  have hw := mwat_range hI ((c % I 149 0 + I 149 (p + 1) * windX w) + k % I 149 (p + 2)) ((c / I 149 0 + I 149 (p + 1) * windY w) + k / I 149 (p + 2))
                  refine Wk.aload_n (k := 0) (q := 113) (by decide +kernel) rfl rfl rfl ?_
                  refine Wk.iload (i := 7) (q := 115) (by decide +kernel) rfl rfl ?_
                  refine Wk.iload (i := 8) (q := 117) (by decide +kernel) rfl rfl ?_
                  refine Wk.cVi (q := 120) l_Mod_65 m_Mod_water (by decide +kernel) (fun _ h => h) O_148 rfl (Nat.le_of_ble_eq_true rfl) (Nat.le_of_ble_eq_true rfl) rfl (c_Mod_water (by omega) (by omega) hI) rfl ?_
                  refine Wk.goto (off := (4)) (q := 124) (by decide +kernel) (by decide) ?_
                  refine Wk.istore (i := 9) (q := 126) (by decide +kernel) (by decide) rfl (fun _ h => h) rfl ?_
                  refine Wk.iload (i := 9) (q := 128) (by decide +kernel) rfl rfl ?_
                  refine Wk.iload (i := 4) (q := 130) (by decide +kernel) rfl rfl ?_
                  refine Wk.icmp_ge (off := (8)) (t := 138) (q := 133) (by decide +kernel) (by decide) rfl (by first | omega | exact bi_rng _) (by first | omega | exact bi_rng _) (fun hc130 => ?_) (fun hc130 => ?_)
                  · refine Wk.iload (i := 4) (q := 140) (by decide +kernel) rfl rfl ?_
                    refine Wk.istore (i := 4) (q := 142) (by decide +kernel) (by decide) rfl (fun _ h => h) rfl ?_
                    refine Wk.iinc (i := 6) (n := 1) (q := 145) (by decide +kernel) rfl (by decide) rfl (fun _ h => h) rfl ?_
                    refine Wk.goto (off := (-128)) (q := 17) (by decide +kernel) (by decide) ?_
                    have hadd := hM.add (v := mval I t ((c % I 149 0 + I 149 (p + 1) * windX w) + k % I 149 (p + 2)) ((c / I 149 0 + I 149 (p + 1) * windY w) + k / I 149 (p + 2))) (by omega)
                    refine ih2 (_, _, _, _) ⟨fun _ => hc50, ?_, ?_, ?_⟩
                    · simp only
                      first
                        | (rw [if_neg (by omega)] at hadd
                           refine hadd.cong (fun v => ⟨fun q => q.elim (fun q => q.elim Or.inl (fun ⟨j, q1, q2⟩ => Or.inr ⟨j, by omega, q2⟩)) (fun q => Or.inr ⟨k, by omega, q⟩), fun q => q.elim (fun q => Or.inl (Or.inl q)) (fun ⟨j, q1, q2⟩ => ?_)⟩)
                           rcases Classical.em (j = k) with e | e
                           · exact Or.inr (by rw [← e]; exact q2)
                           · exact Or.inl (Or.inr ⟨j, by omega, q2⟩))
                        | (rw [if_pos (by omega)] at hadd
                           rw [ev] at hadd
                           refine hadd.cong (fun v => ⟨fun q => q.elim (fun q => q.elim Or.inl (fun ⟨j, q1, q2⟩ => Or.inr ⟨j, by omega, q2⟩)) (fun q => Or.inr ⟨k, by omega, by rw [ev]; exact q⟩), fun q => q.elim (fun q => Or.inl (Or.inl q)) (fun ⟨j, q1, q2⟩ => ?_)⟩)
                           rcases Classical.em (j = k) with e | e
                           · exact Or.inr (by rw [← ev, ← e]; exact q2)
                           · exact Or.inl (Or.inr ⟨j, by omega, q2⟩))
                    · first | (simp only; omega) | exact Int.le_trans (by decide) hw.1
                    · first | (simp only; omega) | exact Int.le_trans hw.2 (by decide)
                  · refine Wk.iload (i := 9) (q := 135) (by decide +kernel) rfl rfl ?_
                    refine Wk.goto (off := (5)) (q := 140) (by decide +kernel) (by decide) ?_
                    refine Wk.istore (i := 4) (q := 142) (by decide +kernel) (by decide) rfl (fun _ h => h) rfl ?_
                    refine Wk.iinc (i := 6) (n := 1) (q := 145) (by decide +kernel) rfl (by decide) rfl (fun _ h => h) rfl ?_
                    refine Wk.goto (off := (-128)) (q := 17) (by decide +kernel) (by decide) ?_
                    have hadd := hM.add (v := mval I t ((c % I 149 0 + I 149 (p + 1) * windX w) + k % I 149 (p + 2)) ((c / I 149 0 + I 149 (p + 1) * windY w) + k / I 149 (p + 2))) (by omega)
                    refine ih2 (_, _, _, _) ⟨fun _ => hc50, ?_, ?_, ?_⟩
                    · simp only
                      first
                        | (rw [if_neg (by omega)] at hadd
                           refine hadd.cong (fun v => ⟨fun q => q.elim (fun q => q.elim Or.inl (fun ⟨j, q1, q2⟩ => Or.inr ⟨j, by omega, q2⟩)) (fun q => Or.inr ⟨k, by omega, q⟩), fun q => q.elim (fun q => Or.inl (Or.inl q)) (fun ⟨j, q1, q2⟩ => ?_)⟩)
                           rcases Classical.em (j = k) with e | e
                           · exact Or.inr (by rw [← e]; exact q2)
                           · exact Or.inl (Or.inr ⟨j, by omega, q2⟩))
                        | (rw [if_pos (by omega)] at hadd
                           rw [ev] at hadd
                           refine hadd.cong (fun v => ⟨fun q => q.elim (fun q => q.elim Or.inl (fun ⟨j, q1, q2⟩ => Or.inr ⟨j, by omega, q2⟩)) (fun q => Or.inr ⟨k, by omega, by rw [ev]; exact q⟩), fun q => q.elim (fun q => Or.inl (Or.inl q)) (fun ⟨j, q1, q2⟩ => ?_)⟩)
                           rcases Classical.em (j = k) with e | e
                           · exact Or.inr (by rw [← ev, ← e]; exact q2)
                           · exact Or.inl (Or.inr ⟨j, by omega, q2⟩))
                    · first | (simp only; omega) | exact Int.le_trans (by decide) hw.1
                    · first | (simp only; omega) | exact Int.le_trans hw.2 (by decide)
                · refine Wk.iload_n (k := 3) (q := 109) (by decide +kernel) rfl rfl rfl ?_
                  refine Wk.if_eq (off := (14)) (t := 123) (q := 112) (by decide +kernel) (by decide) rfl (by first | omega | exact bi_rng _) (fun hc109 => ?_) (fun hc109 => ?_)
                  · have ev := mval_out (I := I) (t := t) (x := (c % I 149 0 + I 149 (p + 1) * windX w) + k % I 149 (p + 2)) (y := (c / I 149 0 + I 149 (p + 1) * windY w) + k / I 149 (p + 2)) (fun z => z.elim hc105 (fun z => z hc109))
                    refine Wk.iconst (n := (-1)) (q := 124) (by decide +kernel) rfl ?_
                    refine Wk.istore (i := 9) (q := 126) (by decide +kernel) (by decide) rfl (fun _ h => h) rfl ?_
                    refine Wk.iload (i := 9) (q := 128) (by decide +kernel) rfl rfl ?_
                    refine Wk.iload (i := 4) (q := 130) (by decide +kernel) rfl rfl ?_
                    refine Wk.icmp_ge (off := (8)) (t := 138) (q := 133) (by decide +kernel) (by decide) rfl (by first | omega | exact bi_rng _) (by first | omega | exact bi_rng _) (fun hc130 => ?_) (fun hc130 => ?_)
                    · refine Wk.iload (i := 4) (q := 140) (by decide +kernel) rfl rfl ?_
                      refine Wk.istore (i := 4) (q := 142) (by decide +kernel) (by decide) rfl (fun _ h => h) rfl ?_
                      refine Wk.iinc (i := 6) (n := 1) (q := 145) (by decide +kernel) rfl (by decide) rfl (fun _ h => h) rfl ?_
                      refine Wk.goto (off := (-128)) (q := 17) (by decide +kernel) (by decide) ?_
                      have hadd := hM.add (v := mval I t ((c % I 149 0 + I 149 (p + 1) * windX w) + k % I 149 (p + 2)) ((c / I 149 0 + I 149 (p + 1) * windY w) + k / I 149 (p + 2))) (by omega)
                      refine ih2 (_, _, _, _) ⟨fun _ => hc50, ?_, ?_, ?_⟩
                      · simp only
                        first
                          | (rw [if_neg (by omega)] at hadd
                             refine hadd.cong (fun v => ⟨fun q => q.elim (fun q => q.elim Or.inl (fun ⟨j, q1, q2⟩ => Or.inr ⟨j, by omega, q2⟩)) (fun q => Or.inr ⟨k, by omega, q⟩), fun q => q.elim (fun q => Or.inl (Or.inl q)) (fun ⟨j, q1, q2⟩ => ?_)⟩)
                             rcases Classical.em (j = k) with e | e
                             · exact Or.inr (by rw [← e]; exact q2)
                             · exact Or.inl (Or.inr ⟨j, by omega, q2⟩))
                          | (rw [if_pos (by omega)] at hadd
                             rw [ev] at hadd
                             refine hadd.cong (fun v => ⟨fun q => q.elim (fun q => q.elim Or.inl (fun ⟨j, q1, q2⟩ => Or.inr ⟨j, by omega, q2⟩)) (fun q => Or.inr ⟨k, by omega, by rw [ev]; exact q⟩), fun q => q.elim (fun q => Or.inl (Or.inl q)) (fun ⟨j, q1, q2⟩ => ?_)⟩)
                             rcases Classical.em (j = k) with e | e
                             · exact Or.inr (by rw [← ev, ← e]; exact q2)
                             · exact Or.inl (Or.inr ⟨j, by omega, q2⟩))
                      · first | (simp only; omega) | exact Int.le_trans (by decide) hw.1
                      · first | (simp only; omega) | exact Int.le_trans hw.2 (by decide)
                    · refine Wk.iload (i := 9) (q := 135) (by decide +kernel) rfl rfl ?_
                      refine Wk.goto (off := (5)) (q := 140) (by decide +kernel) (by decide) ?_
                      refine Wk.istore (i := 4) (q := 142) (by decide +kernel) (by decide) rfl (fun _ h => h) rfl ?_
                      refine Wk.iinc (i := 6) (n := 1) (q := 145) (by decide +kernel) rfl (by decide) rfl (fun _ h => h) rfl ?_
                      refine Wk.goto (off := (-128)) (q := 17) (by decide +kernel) (by decide) ?_
                      have hadd := hM.add (v := mval I t ((c % I 149 0 + I 149 (p + 1) * windX w) + k % I 149 (p + 2)) ((c / I 149 0 + I 149 (p + 1) * windY w) + k / I 149 (p + 2))) (by omega)
                      refine ih2 (_, _, _, _) ⟨fun _ => hc50, ?_, ?_, ?_⟩
                      · simp only
                        first
                          | (rw [if_neg (by omega)] at hadd
                             refine hadd.cong (fun v => ⟨fun q => q.elim (fun q => q.elim Or.inl (fun ⟨j, q1, q2⟩ => Or.inr ⟨j, by omega, q2⟩)) (fun q => Or.inr ⟨k, by omega, q⟩), fun q => q.elim (fun q => Or.inl (Or.inl q)) (fun ⟨j, q1, q2⟩ => ?_)⟩)
                             rcases Classical.em (j = k) with e | e
                             · exact Or.inr (by rw [← e]; exact q2)
                             · exact Or.inl (Or.inr ⟨j, by omega, q2⟩))
                          | (rw [if_pos (by omega)] at hadd
                             rw [ev] at hadd
                             refine hadd.cong (fun v => ⟨fun q => q.elim (fun q => q.elim Or.inl (fun ⟨j, q1, q2⟩ => Or.inr ⟨j, by omega, q2⟩)) (fun q => Or.inr ⟨k, by omega, by rw [ev]; exact q⟩), fun q => q.elim (fun q => Or.inl (Or.inl q)) (fun ⟨j, q1, q2⟩ => ?_)⟩)
                             rcases Classical.em (j = k) with e | e
                             · exact Or.inr (by rw [← ev, ← e]; exact q2)
                             · exact Or.inl (Or.inr ⟨j, by omega, q2⟩))
                      · first | (simp only; omega) | exact Int.le_trans (by decide) hw.1
                      · first | (simp only; omega) | exact Int.le_trans hw.2 (by decide)
                  · have ev := mval_in (I := I) (t := t) (x := (c % I 149 0 + I 149 (p + 1) * windX w) + k % I 149 (p + 2)) (y := (c / I 149 0 + I 149 (p + 1) * windY w) + k / I 149 (p + 2)) (by first | exact Or.inl hc105 | exact Or.inr hc109)
                    have hw := mwat_range hI ((c % I 149 0 + I 149 (p + 1) * windX w) + k % I 149 (p + 2)) ((c / I 149 0 + I 149 (p + 1) * windY w) + k / I 149 (p + 2))
                    refine Wk.aload_n (k := 0) (q := 113) (by decide +kernel) rfl rfl rfl ?_
                    refine Wk.iload (i := 7) (q := 115) (by decide +kernel) rfl rfl ?_
                    refine Wk.iload (i := 8) (q := 117) (by decide +kernel) rfl rfl ?_
                    refine Wk.cVi (q := 120) l_Mod_65 m_Mod_water (by decide +kernel) (fun _ h => h) O_148 rfl (Nat.le_of_ble_eq_true rfl) (Nat.le_of_ble_eq_true rfl) rfl (c_Mod_water (by omega) (by omega) hI) rfl ?_
                    refine Wk.goto (off := (4)) (q := 124) (by decide +kernel) (by decide) ?_
                    refine Wk.istore (i := 9) (q := 126) (by decide +kernel) (by decide) rfl (fun _ h => h) rfl ?_
                    refine Wk.iload (i := 9) (q := 128) (by decide +kernel) rfl rfl ?_
                    refine Wk.iload (i := 4) (q := 130) (by decide +kernel) rfl rfl ?_
                    refine Wk.icmp_ge (off := (8)) (t := 138) (q := 133) (by decide +kernel) (by decide) rfl (by first | omega | exact bi_rng _) (by first | omega | exact bi_rng _) (fun hc130 => ?_) (fun hc130 => ?_)
                    · refine Wk.iload (i := 4) (q := 140) (by decide +kernel) rfl rfl ?_
                      refine Wk.istore (i := 4) (q := 142) (by decide +kernel) (by decide) rfl (fun _ h => h) rfl ?_
                      refine Wk.iinc (i := 6) (n := 1) (q := 145) (by decide +kernel) rfl (by decide) rfl (fun _ h => h) rfl ?_
                      refine Wk.goto (off := (-128)) (q := 17) (by decide +kernel) (by decide) ?_
                      have hadd := hM.add (v := mval I t ((c % I 149 0 + I 149 (p + 1) * windX w) + k % I 149 (p + 2)) ((c / I 149 0 + I 149 (p + 1) * windY w) + k / I 149 (p + 2))) (by omega)
                      refine ih2 (_, _, _, _) ⟨fun _ => hc50, ?_, ?_, ?_⟩
                      · simp only
                        first
                          | (rw [if_neg (by omega)] at hadd
                             refine hadd.cong (fun v => ⟨fun q => q.elim (fun q => q.elim Or.inl (fun ⟨j, q1, q2⟩ => Or.inr ⟨j, by omega, q2⟩)) (fun q => Or.inr ⟨k, by omega, q⟩), fun q => q.elim (fun q => Or.inl (Or.inl q)) (fun ⟨j, q1, q2⟩ => ?_)⟩)
                             rcases Classical.em (j = k) with e | e
                             · exact Or.inr (by rw [← e]; exact q2)
                             · exact Or.inl (Or.inr ⟨j, by omega, q2⟩))
                          | (rw [if_pos (by omega)] at hadd
                             rw [ev] at hadd
                             refine hadd.cong (fun v => ⟨fun q => q.elim (fun q => q.elim Or.inl (fun ⟨j, q1, q2⟩ => Or.inr ⟨j, by omega, q2⟩)) (fun q => Or.inr ⟨k, by omega, by rw [ev]; exact q⟩), fun q => q.elim (fun q => Or.inl (Or.inl q)) (fun ⟨j, q1, q2⟩ => ?_)⟩)
                             rcases Classical.em (j = k) with e | e
                             · exact Or.inr (by rw [← ev, ← e]; exact q2)
                             · exact Or.inl (Or.inr ⟨j, by omega, q2⟩))
                      · first | (simp only; omega) | exact Int.le_trans (by decide) hw.1
                      · first | (simp only; omega) | exact Int.le_trans hw.2 (by decide)
                    · refine Wk.iload (i := 9) (q := 135) (by decide +kernel) rfl rfl ?_
                      refine Wk.goto (off := (5)) (q := 140) (by decide +kernel) (by decide) ?_
                      refine Wk.istore (i := 4) (q := 142) (by decide +kernel) (by decide) rfl (fun _ h => h) rfl ?_
                      refine Wk.iinc (i := 6) (n := 1) (q := 145) (by decide +kernel) rfl (by decide) rfl (fun _ h => h) rfl ?_
                      refine Wk.goto (off := (-128)) (q := 17) (by decide +kernel) (by decide) ?_
                      have hadd := hM.add (v := mval I t ((c % I 149 0 + I 149 (p + 1) * windX w) + k % I 149 (p + 2)) ((c / I 149 0 + I 149 (p + 1) * windY w) + k / I 149 (p + 2))) (by omega)
                      refine ih2 (_, _, _, _) ⟨fun _ => hc50, ?_, ?_, ?_⟩
                      · simp only
                        first
                          | (rw [if_neg (by omega)] at hadd
                             refine hadd.cong (fun v => ⟨fun q => q.elim (fun q => q.elim Or.inl (fun ⟨j, q1, q2⟩ => Or.inr ⟨j, by omega, q2⟩)) (fun q => Or.inr ⟨k, by omega, q⟩), fun q => q.elim (fun q => Or.inl (Or.inl q)) (fun ⟨j, q1, q2⟩ => ?_)⟩)
                             rcases Classical.em (j = k) with e | e
                             · exact Or.inr (by rw [← e]; exact q2)
                             · exact Or.inl (Or.inr ⟨j, by omega, q2⟩))
                          | (rw [if_pos (by omega)] at hadd
                             rw [ev] at hadd
                             refine hadd.cong (fun v => ⟨fun q => q.elim (fun q => q.elim Or.inl (fun ⟨j, q1, q2⟩ => Or.inr ⟨j, by omega, q2⟩)) (fun q => Or.inr ⟨k, by omega, by rw [ev]; exact q⟩), fun q => q.elim (fun q => Or.inl (Or.inl q)) (fun ⟨j, q1, q2⟩ => ?_)⟩)
                             rcases Classical.em (j = k) with e | e
                             · exact Or.inr (by rw [← ev, ← e]; exact q2)
                             · exact Or.inl (Or.inr ⟨j, by omega, q2⟩))
                      · first | (simp only; omega) | exact Int.le_trans (by decide) hw.1
                      · first | (simp only; omega) | exact Int.le_trans hw.2 (by decide)
        refine Wk.iconst (n := 0) (q := 15) (by decide +kernel) rfl ?_
        refine Wk.istore (i := 6) (q := 17) (by decide +kernel) (by decide) rfl (fun _ h => h) rfl ?_
        exact key2 o7 o8 o9
  refine Wk.bipush (n := 100) (q := 2) (by decide +kernel) (by decide +kernel) rfl ?_
  refine Wk.istore (i := 4) (q := 4) (by decide +kernel) (by decide) rfl (fun _ h => h) rfl ?_
  refine Wk.iconst (n := 0) (q := 5) (by decide +kernel) rfl ?_
  refine Wk.istore (i := 5) (q := 7) (by decide +kernel) (by decide) rfl (fun _ h => h) rfl ?_
  exact key
theorem mml_iff {I : IM} {p c : Int} (hd : 1 ≤ I 149 p) : mML I (I 149 3) p c ↔ ∀ v, (∃ u cx cy, (0 ≤ u ∧ u < 8) ∧ bt (I 149 3) u = true ∧ mLO I p c u cx cy ∧ v = mval I 0 cx cy) → I 149 p ≤ v := by
  constructor
  · intro h v ⟨w, cx, cy, q1, q2, q3, q4⟩
    have h1 := h w cx cy q1.1 q1.2 q2 q3
    rw [q4, mval_in (Or.inl h1.1)]
    exact h1.2
  · intro h w cx cy q0 q1 q2 q3
    have h1 := h _ ⟨w, cx, cy, ⟨q0, q1⟩, q2, q3, rfl⟩
    by_cases hi : inE (I 149 0) (I 149 1) cx cy
    · rw [mval_in (Or.inl hi)] at h1
      exact ⟨hi, h1⟩
    · rw [mval_out (fun z => z.elim hi (fun z => z rfl))] at h1
      omega
theorem c_Mod_mayLie {p c : Int} (hI : MI0 I) (hp : MP I p) (hc : mC I c) : Wk xs x_Mod_mayLie (d + 4) 0 0 0 [some (vr 148), some (vi p), some (vi c)] [] X2 I L (pI (bi (mML I (I 149 3) p c)) I L) := by
  obtain ⟨hW, hH, hT, hF, hA, hK, hD⟩ := id hI
  obtain ⟨hp0, hdr, hch, hsd⟩ := id hp
  obtain ⟨hc0, hc1⟩ := id hc
  have h49 := WH49 (W := I 149 0) (H := I 149 1) (by omega) (by omega)
  obtain ⟨hcx, hcy⟩ := mcoord hW.1 hc0 hc1
  refine Wk.aload_n (k := 0) (q := 1) (by decide +kernel) rfl rfl rfl ?_
  refine Wk.iload_n (k := 1) (q := 2) (by decide +kernel) rfl rfl rfl ?_
  refine Wk.iload_n (k := 2) (q := 3) (by decide +kernel) rfl rfl rfl ?_
  refine Wk.iconst (n := 0) (q := 4) (by decide +kernel) rfl ?_
  refine Wk.cV (q := 7) l_Mod_69 m_Mod_leastWater (by decide +kernel) (fun _ h => h) O_148 rfl (Nat.le_of_ble_eq_true rfl) (Nat.le_of_ble_eq_true rfl) rfl (c_Mod_leastWater hI hp hc (Or.inl rfl)) rfl (fun v I' L' hP => ?_)
  obtain ⟨⟨z, rfl, hz, hz0, hz1⟩, rfl, rfl⟩ := hP
  have hg := (hz.ge (d := I' 149 p) (by omega)).trans (mml_iff hdr.1).symm
  refine Wk.aload_n (k := 0) (q := 8) (by decide +kernel) rfl rfl rfl ?_
  refine Wk.getR (r := 149) (q := 11) f_Mod_7 (by decide +kernel) O_148 (by decide) rfl rfl rfl ?_
  refine Wk.iload_n (k := 1) (q := 12) (by decide +kernel) rfl rfl rfl ?_
  refine Wk.iaload (q := 13) (by decide +kernel) A_149 (by first | omega | exact bi_rng _) (by first | omega | exact bi_rng _) rfl ?_
  refine Wk.icmp_lt (off := (7)) (t := 20) (q := 16) (by decide +kernel) (by decide) rfl (by first | omega | exact bi_rng _) (by first | omega | exact bi_rng _) (fun hc13 => ?_) (fun hc13 => ?_)
  · refine Wk.iconst (n := 0) (q := 21) (by decide +kernel) rfl ?_
    exact Wk.rZ (by decide +kernel) rfl (by first | omega | decide | exact bi_01 _) (by first | (rw [bi_f (fun q => by have := hg.mpr q; omega)]; done) | (rw [bi_t (hg.mp (by omega))]; done))
  · refine Wk.iconst (n := 1) (q := 17) (by decide +kernel) rfl ?_
    refine Wk.goto (off := (4)) (q := 21) (by decide +kernel) (by decide) ?_
    exact Wk.rZ (by decide +kernel) rfl (by first | omega | decide | exact bi_01 _) (by first | (rw [bi_f (fun q => by have := hg.mpr q; omega)]; done) | (rw [bi_t (hg.mp (by omega))]; done))
theorem c_Mod_share {a e b f : Int} (ha : -100 ≤ a ∧ a ≤ 100) (he : -100 ≤ e ∧ e ≤ 100) (hb : -100 ≤ b ∧ b ≤ 100) (hf : -100 ≤ f ∧ f ≤ 100) : Wk xs x_Mod_share d 0 0 0 [some (vi a), some (vi e), some (vi b), some (vi f)] [] X2 I L (pI (bi (a < b + f ∧ b < a + e)) I L) := by
  refine Wk.iload_n (k := 0) (q := 1) (by decide +kernel) rfl rfl rfl ?_
  refine Wk.iload_n (k := 2) (q := 2) (by decide +kernel) rfl rfl rfl ?_
  refine Wk.iload_n (k := 3) (q := 3) (by decide +kernel) rfl rfl rfl ?_
  refine Wk.iadd (q := 4) (by decide +kernel) rfl ?_
  refine Wk.icmp_ge (off := (14)) (t := 18) (q := 7) (by decide +kernel) (by decide) rfl (by first | omega | exact bi_rng _) (by first | omega | exact bi_rng _) (fun hc4 => ?_) (fun hc4 => ?_)
  · refine Wk.iconst (n := 0) (q := 19) (by decide +kernel) rfl ?_
    exact Wk.rZ (by decide +kernel) rfl (by first | omega | decide | exact bi_01 _) (by first | rw [bi_t (by omega)] | rw [bi_f (by omega)])
  · refine Wk.iload_n (k := 2) (q := 8) (by decide +kernel) rfl rfl rfl ?_
    refine Wk.iload_n (k := 0) (q := 9) (by decide +kernel) rfl rfl rfl ?_
    refine Wk.iload_n (k := 1) (q := 10) (by decide +kernel) rfl rfl rfl ?_
    refine Wk.iadd (q := 11) (by decide +kernel) rfl ?_
    refine Wk.icmp_ge (off := (7)) (t := 18) (q := 14) (by decide +kernel) (by decide) rfl (by first | omega | exact bi_rng _) (by first | omega | exact bi_rng _) (fun hc11 => ?_) (fun hc11 => ?_)
    · refine Wk.iconst (n := 0) (q := 19) (by decide +kernel) rfl ?_
      exact Wk.rZ (by decide +kernel) rfl (by first | omega | decide | exact bi_01 _) (by first | rw [bi_t (by omega)] | rw [bi_f (by omega)])
    · refine Wk.iconst (n := 1) (q := 15) (by decide +kernel) rfl ?_
      refine Wk.goto (off := (4)) (q := 19) (by decide +kernel) (by decide) ?_
      exact Wk.rZ (by decide +kernel) rfl (by first | omega | decide | exact bi_01 _) (by first | rw [bi_t (by omega)] | rw [bi_f (by omega)])
theorem c_Mod_clash {p c q e : Int} (hI : MI0 I) (hp : MP I p) (hc : mC I c) (hq : MP I q) (he : mC I e) : Wk xs x_Mod_clash (d + 2) 0 0 0 [some (vr 148), some (vi p), some (vi c), some (vi q), some (vi e), none, none, none, none] [] X2 I L (pI (bi (mCL I (I 149 3) p c q e)) I L) := by
  obtain ⟨hW, hH, hT, hF, hA, hK, hD⟩ := id hI
  obtain ⟨hp0, hdr, hch, hsd⟩ := id hp
  obtain ⟨hc0, hc1⟩ := id hc
  have h49 := WH49 (W := I 149 0) (H := I 149 1) (by omega) (by omega)
  obtain ⟨hcx, hcy⟩ := mcoord hW.1 hc0 hc1
  obtain ⟨hq0, -, hch2, hsd2⟩ := id hq
  obtain ⟨he0, he1⟩ := id he
  obtain ⟨hex, hey⟩ := mcoord hW.1 he0 he1
  have fin : ∀ (k : Int) (o7 o8 : Option AV), 0 ≤ k → k ≤ 8 → mCL I (I 149 3) p c q e → Wk xs x_Mod_clash (d + 2) 0 0 6 [some (vr 148), some (vi p), some (vi c), some (vi q), some (vi e), some (vi 1), some (vi k), o7, o8] [] X2 I L (pI (bi (mCL I (I 149 3) p c q e)) I L) := by
    intro k o7 o8 k0 k1 hcl
    refine Wk.iload (i := 6) (q := 8) (by decide +kernel) rfl rfl ?_
    refine Wk.bipush (n := 8) (q := 10) (by decide +kernel) (by decide +kernel) rfl ?_
    refine Wk.icmp_ge (off := (121)) (t := 131) (q := 13) (by decide +kernel) (by decide) rfl (by first | omega | exact bi_rng _) (by first | omega | exact bi_rng _) (fun hc10 => ?_) (fun hc10 => ?_)
    · refine Wk.iload (i := 5) (q := 133) (by decide +kernel) rfl rfl ?_
      exact Wk.rZ (by decide +kernel) rfl (by first | omega | decide | exact bi_01 _) (by rw [bi_t hcl])
    · refine Wk.iload (i := 5) (q := 15) (by decide +kernel) rfl rfl ?_
      refine Wk.if_ne (off := (116)) (t := 131) (q := 18) (by decide +kernel) (by decide) rfl (by first | omega | exact bi_rng _) (fun hc15 => ?_) (fun hc15 => ?_)
      · refine Wk.iload (i := 5) (q := 133) (by decide +kernel) rfl rfl ?_
        exact Wk.rZ (by decide +kernel) rfl (by first | omega | decide | exact bi_01 _) (by rw [bi_t hcl])
      · omega
  have key : Wk xs x_Mod_clash (d + 2) 0 0 6 [some (vr 148), some (vi p), some (vi c), some (vi q), some (vi e), some (vi 0), some (vi 0), none, none] [] X2 I L (pI (bi (mCL I (I 149 3) p c q e)) I L) := by
    refine loopS (σ := Option AV × Option AV) (fun k s => Wk xs x_Mod_clash (d + 2) 0 0 6 [some (vr 148), some (vi p), some (vi c), some (vi q), some (vi e), some (vi 0), some (vi k), s.1, s.2] [] X2 I L (pI (bi (mCL I (I 149 3) p c q e)) I L)) (fun k _ => ∀ w, 0 ≤ w → w < k → bt (I 149 3) w = true → ¬ CLw (I 149 (p + 1)) (I 149 (p + 2)) (c % I 149 0) (c / I 149 0) (I 149 (q + 1)) (I 149 (q + 2)) (e % I 149 0) (e / I 149 0)  w) 8 0 (none, none) (by omega) (fun w z0 z1 => by omega) ?_ ?_
    · intro s hJ
      refine Wk.iload (i := 6) (q := 8) (by decide +kernel) rfl rfl ?_
      refine Wk.bipush (n := 8) (q := 10) (by decide +kernel) (by decide +kernel) rfl ?_
      refine Wk.icmp_ge (off := (121)) (t := 131) (q := 13) (by decide +kernel) (by decide) rfl (by first | omega | exact bi_rng _) (by first | omega | exact bi_rng _) (fun hc10 => ?_) (fun hc10 => ?_)
      · refine Wk.iload (i := 5) (q := 133) (by decide +kernel) rfl rfl ?_
        exact Wk.rZ (by decide +kernel) rfl (by first | omega | decide | exact bi_01 _) (by rw [bi_f]; intro hz; obtain ⟨w, z0, z1, z2, z3⟩ := hz; exact hJ w z0 z1 z2 z3)
      · omega
    · intro w s k0 k1 hJ ih
      obtain ⟨o7, o8⟩ := s
      simp only
      have m1 := mulB hch (windX_r w)
      have m2 := mulB hch (windY_r w)
      have m3 := mulB hch2 (windX_r w)
      have m4 := mulB hch2 (windY_r w)
      refine Wk.iload (i := 6) (q := 8) (by decide +kernel) rfl rfl ?_
      refine Wk.bipush (n := 8) (q := 10) (by decide +kernel) (by decide +kernel) rfl ?_
      refine Wk.icmp_ge (off := (121)) (t := 131) (q := 13) (by decide +kernel) (by decide) rfl (by first | omega | exact bi_rng _) (by first | omega | exact bi_rng _) (fun hc10 => ?_) (fun hc10 => ?_)
      · omega
      · refine Wk.iload (i := 5) (q := 15) (by decide +kernel) rfl rfl ?_
        refine Wk.if_ne (off := (116)) (t := 131) (q := 18) (by decide +kernel) (by decide) rfl (by first | omega | exact bi_rng _) (fun hc15 => ?_) (fun hc15 => ?_)
        · omega
        · refine Wk.aload_n (k := 0) (q := 19) (by decide +kernel) rfl rfl rfl ?_
          refine Wk.iload_n (k := 1) (q := 20) (by decide +kernel) rfl rfl rfl ?_
          refine Wk.iload_n (k := 2) (q := 21) (by decide +kernel) rfl rfl rfl ?_
          refine Wk.iload (i := 6) (q := 23) (by decide +kernel) rfl rfl ?_
          refine Wk.cVi (q := 26) l_Mod_51 m_Mod_left (by decide +kernel) (fun _ h => h) O_148 rfl (Nat.le_of_ble_eq_true rfl) (Nat.le_of_ble_eq_true rfl) rfl (c_Mod_left hI hp hc (by omega) (by omega)) rfl ?_
          refine Wk.aload_n (k := 0) (q := 27) (by decide +kernel) rfl rfl rfl ?_
          refine Wk.getR (r := 149) (q := 30) f_Mod_7 (by decide +kernel) O_148 (by decide) rfl rfl rfl ?_
          refine Wk.iload_n (k := 1) (q := 31) (by decide +kernel) rfl rfl rfl ?_
          refine Wk.iconst (n := 2) (q := 32) (by decide +kernel) rfl ?_
          refine Wk.iadd (q := 33) (by decide +kernel) rfl ?_
          refine Wk.iaload (q := 34) (by decide +kernel) A_149 (by first | omega | exact bi_rng _) (by first | omega | exact bi_rng _) rfl ?_
          refine Wk.aload_n (k := 0) (q := 35) (by decide +kernel) rfl rfl rfl ?_
          refine Wk.iload_n (k := 3) (q := 36) (by decide +kernel) rfl rfl rfl ?_
          refine Wk.iload (i := 4) (q := 38) (by decide +kernel) rfl rfl ?_
          refine Wk.iload (i := 6) (q := 40) (by decide +kernel) rfl rfl ?_
          refine Wk.cVi (q := 43) l_Mod_51 m_Mod_left (by decide +kernel) (fun _ h => h) O_148 rfl (Nat.le_of_ble_eq_true rfl) (Nat.le_of_ble_eq_true rfl) rfl (c_Mod_left hI hq he (by omega) (by omega)) rfl ?_
          refine Wk.aload_n (k := 0) (q := 44) (by decide +kernel) rfl rfl rfl ?_
          refine Wk.getR (r := 149) (q := 47) f_Mod_7 (by decide +kernel) O_148 (by decide) rfl rfl rfl ?_
          refine Wk.iload_n (k := 3) (q := 48) (by decide +kernel) rfl rfl rfl ?_
          refine Wk.iconst (n := 2) (q := 49) (by decide +kernel) rfl ?_
          refine Wk.iadd (q := 50) (by decide +kernel) rfl ?_
          refine Wk.iaload (q := 51) (by decide +kernel) A_149 (by first | omega | exact bi_rng _) (by first | omega | exact bi_rng _) rfl ?_
          refine Wk.cSi (q := 54) l_Mod_73 m_Mod_share (by decide +kernel) (fun _ h => h) (Nat.le_of_ble_eq_true rfl) (Nat.le_of_ble_eq_true rfl) rfl (c_Mod_share (by omega) (by omega) (by omega) (by omega)) rfl ?_
          refine Wk.istore (i := 7) (q := 56) (by decide +kernel) (by decide) rfl (fun _ h => h) rfl ?_
          refine Wk.aload_n (k := 0) (q := 57) (by decide +kernel) rfl rfl rfl ?_
          refine Wk.iload_n (k := 1) (q := 58) (by decide +kernel) rfl rfl rfl ?_
          refine Wk.iload_n (k := 2) (q := 59) (by decide +kernel) rfl rfl rfl ?_
          refine Wk.iload (i := 6) (q := 61) (by decide +kernel) rfl rfl ?_
          refine Wk.cVi (q := 64) l_Mod_55 m_Mod_top (by decide +kernel) (fun _ h => h) O_148 rfl (Nat.le_of_ble_eq_true rfl) (Nat.le_of_ble_eq_true rfl) rfl (c_Mod_top hI hp hc (by omega) (by omega)) rfl ?_
          refine Wk.aload_n (k := 0) (q := 65) (by decide +kernel) rfl rfl rfl ?_
          refine Wk.getR (r := 149) (q := 68) f_Mod_7 (by decide +kernel) O_148 (by decide) rfl rfl rfl ?_
          refine Wk.iload_n (k := 1) (q := 69) (by decide +kernel) rfl rfl rfl ?_
          refine Wk.iconst (n := 2) (q := 70) (by decide +kernel) rfl ?_
          refine Wk.iadd (q := 71) (by decide +kernel) rfl ?_
          refine Wk.iaload (q := 72) (by decide +kernel) A_149 (by first | omega | exact bi_rng _) (by first | omega | exact bi_rng _) rfl ?_
          refine Wk.aload_n (k := 0) (q := 73) (by decide +kernel) rfl rfl rfl ?_
          refine Wk.iload_n (k := 3) (q := 74) (by decide +kernel) rfl rfl rfl ?_
          refine Wk.iload (i := 4) (q := 76) (by decide +kernel) rfl rfl ?_
          refine Wk.iload (i := 6) (q := 78) (by decide +kernel) rfl rfl ?_
          refine Wk.cVi (q := 81) l_Mod_55 m_Mod_top (by decide +kernel) (fun _ h => h) O_148 rfl (Nat.le_of_ble_eq_true rfl) (Nat.le_of_ble_eq_true rfl) rfl (c_Mod_top hI hq he (by omega) (by omega)) rfl ?_
          refine Wk.aload_n (k := 0) (q := 82) (by decide +kernel) rfl rfl rfl ?_
          refine Wk.getR (r := 149) (q := 85) f_Mod_7 (by decide +kernel) O_148 (by decide) rfl rfl rfl ?_
          refine Wk.iload_n (k := 3) (q := 86) (by decide +kernel) rfl rfl rfl ?_
          refine Wk.iconst (n := 2) (q := 87) (by decide +kernel) rfl ?_
          refine Wk.iadd (q := 88) (by decide +kernel) rfl ?_
          refine Wk.iaload (q := 89) (by decide +kernel) A_149 (by first | omega | exact bi_rng _) (by first | omega | exact bi_rng _) rfl ?_
          refine Wk.cSi (q := 92) l_Mod_73 m_Mod_share (by decide +kernel) (fun _ h => h) (Nat.le_of_ble_eq_true rfl) (Nat.le_of_ble_eq_true rfl) rfl (c_Mod_share (by omega) (by omega) (by omega) (by omega)) rfl ?_
          refine Wk.istore (i := 8) (q := 94) (by decide +kernel) (by decide) rfl (fun _ h => h) rfl ?_
          refine Wk.aload_n (k := 0) (q := 95) (by decide +kernel) rfl rfl rfl ?_
          refine Wk.getR (r := 149) (q := 98) f_Mod_7 (by decide +kernel) O_148 (by decide) rfl rfl rfl ?_
          refine Wk.iconst (n := 3) (q := 99) (by decide +kernel) rfl ?_
          refine Wk.iaload (q := 100) (by decide +kernel) A_149 (by first | omega | exact bi_rng _) (by first | omega | exact bi_rng _) rfl ?_
          refine Wk.iload (i := 6) (q := 102) (by decide +kernel) rfl rfl ?_
          refine Wk.cSi (q := 105) l_Mod_58 m_Mod_has (by decide +kernel) (fun _ h => h) (Nat.le_of_ble_eq_true rfl) (Nat.le_of_ble_eq_true rfl) rfl (c_Mod_has (by omega) (by omega) (by omega) (by omega)) rfl ?_
          refine Wk.ifB_eq (off := (17)) (t := 122) (q := 108) (by decide +kernel) (by decide) rfl (fun hc105 => ?_) (fun hc105 => ?_)
          · refine Wk.iconst (n := 0) (q := 123) (by decide +kernel) rfl ?_
            refine Wk.istore (i := 5) (q := 125) (by decide +kernel) (by decide) rfl (fun _ h => h) rfl ?_
            refine Wk.iinc (i := 6) (n := 1) (q := 128) (by decide +kernel) rfl (by decide) rfl (fun _ h => h) rfl ?_
            refine Wk.goto (off := (-122)) (q := 6) (by decide +kernel) (by decide) ?_
            first
              | exact fin _ _ _ (by omega) (by omega) ⟨w, k0, k1, hc105, ⟨hc110.1, hc110.2⟩, hc115.1, hc115.2⟩
              | exact ih (_, _) (ext1 hJ (fun z2 z3 => by first | exact hc105 z2 | exact hc110 z3.1 | exact hc115 z3.2))
          · refine Wk.iload (i := 7) (q := 110) (by decide +kernel) rfl rfl ?_
            refine Wk.ifB_eq (off := (12)) (t := 122) (q := 113) (by decide +kernel) (by decide) rfl (fun hc110 => ?_) (fun hc110 => ?_)
            · refine Wk.iconst (n := 0) (q := 123) (by decide +kernel) rfl ?_
              refine Wk.istore (i := 5) (q := 125) (by decide +kernel) (by decide) rfl (fun _ h => h) rfl ?_
              refine Wk.iinc (i := 6) (n := 1) (q := 128) (by decide +kernel) rfl (by decide) rfl (fun _ h => h) rfl ?_
              refine Wk.goto (off := (-122)) (q := 6) (by decide +kernel) (by decide) ?_
              first
                | exact fin _ _ _ (by omega) (by omega) ⟨w, k0, k1, hc105, ⟨hc110.1, hc110.2⟩, hc115.1, hc115.2⟩
                | exact ih (_, _) (ext1 hJ (fun z2 z3 => by first | exact hc105 z2 | exact hc110 z3.1 | exact hc115 z3.2))
            · refine Wk.iload (i := 8) (q := 115) (by decide +kernel) rfl rfl ?_
              refine Wk.ifB_eq (off := (7)) (t := 122) (q := 118) (by decide +kernel) (by decide) rfl (fun hc115 => ?_) (fun hc115 => ?_)
              · refine Wk.iconst (n := 0) (q := 123) (by decide +kernel) rfl ?_
                refine Wk.istore (i := 5) (q := 125) (by decide +kernel) (by decide) rfl (fun _ h => h) rfl ?_
                refine Wk.iinc (i := 6) (n := 1) (q := 128) (by decide +kernel) rfl (by decide) rfl (fun _ h => h) rfl ?_
                refine Wk.goto (off := (-122)) (q := 6) (by decide +kernel) (by decide) ?_
                first
                  | exact fin _ _ _ (by omega) (by omega) ⟨w, k0, k1, hc105, ⟨hc110.1, hc110.2⟩, hc115.1, hc115.2⟩
                  | exact ih (_, _) (ext1 hJ (fun z2 z3 => by first | exact hc105 z2 | exact hc110 z3.1 | exact hc115 z3.2))
              · refine Wk.iconst (n := 1) (q := 119) (by decide +kernel) rfl ?_
                refine Wk.goto (off := (4)) (q := 123) (by decide +kernel) (by decide) ?_
                refine Wk.istore (i := 5) (q := 125) (by decide +kernel) (by decide) rfl (fun _ h => h) rfl ?_
                refine Wk.iinc (i := 6) (n := 1) (q := 128) (by decide +kernel) rfl (by decide) rfl (fun _ h => h) rfl ?_
                refine Wk.goto (off := (-122)) (q := 6) (by decide +kernel) (by decide) ?_
                first
                  | exact fin _ _ _ (by omega) (by omega) ⟨w, k0, k1, hc105, ⟨hc110.1, hc110.2⟩, hc115.1, hc115.2⟩
                  | exact ih (_, _) (ext1 hJ (fun z2 z3 => by first | exact hc105 z2 | exact hc110 z3.1 | exact hc115 z3.2))
  refine Wk.iconst (n := 0) (q := 1) (by decide +kernel) rfl ?_
  refine Wk.istore (i := 5) (q := 3) (by decide +kernel) (by decide) rfl (fun _ h => h) rfl ?_
  refine Wk.iconst (n := 0) (q := 4) (by decide +kernel) rfl ?_
  refine Wk.istore (i := 6) (q := 6) (by decide +kernel) (by decide) rfl (fun _ h => h) rfl ?_
  exact key
end MOB
