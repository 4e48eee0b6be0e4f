/-! THE LEAST WATER, cells swept, danger -/
section SWH
variable {xs : RO} {d : Nat} {I : IM} {L : LM}

theorem c_Swing_leastWaterBy {a w : Int} (h0 : 0 ≤ a) (h1 : a < I 1 4) (h2 : 0 ≤ w) (h3 : w < 8) (hC : CW I) : Wk xs x_Swing_leastWaterBy (d + 2) 0 0 0 [some (vr 1), some (vi a), some (vi w), none, none, none, none, none] [] X2 I L (p2 fun v I' L' => (∃ z, v = some (vi z) ∧ MinOf 2147483647 (fun v => ∃ cx cy, cLO I a w cx cy ∧ v = cwat I cx cy) z ∧ 0 ≤ z ∧ z ≤ 12) ∧ I' = I ∧ L' = L) := by
  obtain ⟨⟨hW, hH, -, -, hA, -, -⟩, hS, hP⟩ := id hC
  obtain ⟨hdr, hch, hsd⟩ := hS a (Or.inl ⟨h0, h1⟩)
  obtain ⟨hx, hy⟩ := hP a h0 h1
  have m1 := mulB hch (windX_r w)
  have m2 := mulB hch (windY_r w)
  have key : ∀ o8 : Option AV, Wk xs x_Swing_leastWaterBy (d + 2) 0 0 23 [some (vr 1), some (vi a), some (vi w), some (vi 2147483647), some (vi (I 6 a + I 4 a * windX w)), some (vi (I 7 a + I 4 a * windY w)), some (vi (I 7 a + I 4 a * windY w)), o8] [] X2 I L (p2 fun v I' L' => (∃ z, v = some (vi z) ∧ MinOf 2147483647 (fun v => ∃ cx cy, cLO I a w cx cy ∧ v = cwat I cx cy) z ∧ 0 ≤ z ∧ z ≤ 12) ∧ I' = I ∧ L' = L) := by
    intro o8
    refine loopS (σ := Int × Option AV) (fun y s => Wk xs x_Swing_leastWaterBy (d + 2) 0 0 23 [some (vr 1), some (vi a), some (vi w), some (vi s.1), some (vi (I 6 a + I 4 a * windX w)), some (vi (I 7 a + I 4 a * windY w)), some (vi y), s.2] [] X2 I L (p2 fun v I' L' => (∃ z, v = some (vi z) ∧ MinOf 2147483647 (fun v => ∃ cx cy, cLO I a w cx cy ∧ v = cwat I cx cy) z ∧ 0 ≤ z ∧ z ≤ 12) ∧ I' = I ∧ L' = L)) (fun y s => MinOf 2147483647 (fun v => ∃ cx cy, ((I 6 a + I 4 a * windX w) ≤ cx ∧ cx < (I 6 a + I 4 a * windX w) + I 5 a) ∧ ((I 7 a + I 4 a * windY w) ≤ cy ∧ cy < y) ∧ v = cwat I cx cy) s.1 ∧ 0 ≤ s.1 ∧ s.1 ≤ 2147483647) ((I 7 a + I 4 a * windY w) + I 5 a) (I 7 a + I 4 a * windY w) (2147483647, o8) (by omega) ⟨MinOf.none (fun v hv => by obtain ⟨cx, cy, q1, q2, q3⟩ := hv; omega), by omega, by omega⟩ ?_ ?_
    · intro s hJ
      obtain ⟨m, o9⟩ := s
      obtain ⟨hJ, hm0, hm1⟩ := hJ
      simp only at hJ hm0 hm1 ⊢
      refine Wk.iload (i := 6) (q := 25) (by decide +kernel) rfl rfl ?_
      refine Wk.iload (i := 5) (q := 27) (by decide +kernel) rfl rfl ?_
      refine Wk.aload_n (k := 0) (q := 28) (by decide +kernel) rfl rfl rfl ?_
      refine Wk.getR (r := 5) (q := 31) f_Swing_36 (by decide +kernel) O_1 (by decide) rfl rfl rfl ?_
      refine Wk.iload_n (k := 1) (q := 32) (by decide +kernel) rfl rfl rfl ?_
      refine Wk.iaload (q := 33) (by decide +kernel) A_5 (by first | omega | exact bi_rng _) (by first | omega | exact bi_rng _) rfl ?_
      refine Wk.iadd (q := 34) (by decide +kernel) rfl ?_
      refine Wk.icmp_ge (off := (46)) (t := 80) (q := 37) (by decide +kernel) (by decide) rfl (by first | omega | exact bi_rng _) (by first | omega | exact bi_rng _) (fun hc34 => ?_) (fun hc34 => ?_)
      · have hJ2 := hJ.cong (Q := fun v => ∃ cx cy, cLO I a w cx cy ∧ v = cwat I cx cy) (fun v => ⟨fun ⟨cx, cy, q1, q2, q3⟩ => ⟨cx, cy, ⟨q1, q2⟩, q3⟩, fun ⟨cx, cy, ⟨q1, q2⟩, q3⟩ => ⟨cx, cy, q1, q2, q3⟩⟩)
        have hm12 : m ≤ 12 := by
          have q := hJ.1 (cwat I (I 6 a + I 4 a * windX w) (I 7 a + I 4 a * windY w)) ⟨(I 6 a + I 4 a * windX w), (I 7 a + I 4 a * windY w), by omega, by omega, rfl⟩
          have := (cwat_range hC.1 (I 6 a + I 4 a * windX w) (I 7 a + I 4 a * windY w)).2
          omega
        refine Wk.iload_n (k := 3) (q := 81) (by decide +kernel) rfl rfl rfl ?_
        exact Wk.riP (by decide +kernel) rfl (⟨⟨m, rfl, hJ2, hm0, hm12⟩, rfl, rfl⟩)
      · omega
    · intro y s y0 y1 hJ ih
      obtain ⟨m, o9⟩ := s
      obtain ⟨hJ, hm0, hm1⟩ := hJ
      simp only at hJ hm0 hm1 ⊢
      refine Wk.iload (i := 6) (q := 25) (by decide +kernel) rfl rfl ?_
      refine Wk.iload (i := 5) (q := 27) (by decide +kernel) rfl rfl ?_
      refine Wk.aload_n (k := 0) (q := 28) (by decide +kernel) rfl rfl rfl ?_
      refine Wk.getR (r := 5) (q := 31) f_Swing_36 (by decide +kernel) O_1 (by decide) rfl rfl rfl ?_
      refine Wk.iload_n (k := 1) (q := 32) (by decide +kernel) rfl rfl rfl ?_
      refine Wk.iaload (q := 33) (by decide +kernel) A_5 (by first | omega | exact bi_rng _) (by first | omega | exact bi_rng _) rfl ?_
      refine Wk.iadd (q := 34) (by decide +kernel) rfl ?_
      refine Wk.icmp_ge (off := (46)) (t := 80) (q := 37) (by decide +kernel) (by decide) rfl (by first | omega | exact bi_rng _) (by first | omega | exact bi_rng _) (fun hc34 => ?_) (fun hc34 => ?_)
      · omega
      · have key2 : Wk xs x_Swing_leastWaterBy (d + 2) 0 0 41 [some (vr 1), some (vi a), some (vi w), some (vi m), some (vi (I 6 a + I 4 a * windX w)), some (vi (I 7 a + I 4 a * windY w)), some (vi y), some (vi (I 6 a + I 4 a * windX w))] [] X2 I L (p2 fun v I' L' => (∃ z, v = some (vi z) ∧ MinOf 2147483647 (fun v => ∃ cx cy, cLO I a w cx cy ∧ v = cwat I cx cy) z ∧ 0 ≤ z ∧ z ≤ 12) ∧ I' = I ∧ L' = L) := by
          refine loopS (σ := Int) (fun x m => Wk xs x_Swing_leastWaterBy (d + 2) 0 0 41 [some (vr 1), some (vi a), some (vi w), some (vi m), some (vi (I 6 a + I 4 a * windX w)), some (vi (I 7 a + I 4 a * windY w)), some (vi y), some (vi x)] [] X2 I L (p2 fun v I' L' => (∃ z, v = some (vi z) ∧ MinOf 2147483647 (fun v => ∃ cx cy, cLO I a w cx cy ∧ v = cwat I cx cy) z ∧ 0 ≤ z ∧ z ≤ 12) ∧ I' = I ∧ L' = L)) (fun x m => MinOf 2147483647 (fun v => (∃ cx cy, ((I 6 a + I 4 a * windX w) ≤ cx ∧ cx < (I 6 a + I 4 a * windX w) + I 5 a) ∧ ((I 7 a + I 4 a * windY w) ≤ cy ∧ cy < y) ∧ v = cwat I cx cy) ∨ ∃ cx, ((I 6 a + I 4 a * windX w) ≤ cx ∧ cx < x) ∧ v = cwat I cx y) m ∧ 0 ≤ m ∧ m ≤ 2147483647) ((I 6 a + I 4 a * windX w) + I 5 a) (I 6 a + I 4 a * windX w) m (by omega) ⟨hJ.cong (fun v => ⟨fun q => Or.inl q, fun q => q.elim id (fun ⟨cx, q1, q2⟩ => by omega)⟩), hm0, hm1⟩ ?_ ?_
          · intro m hM
            obtain ⟨hM, hm0, hm1⟩ := hM
            refine Wk.iload (i := 7) (q := 43) (by decide +kernel) rfl rfl ?_
            refine Wk.iload (i := 4) (q := 45) (by decide +kernel) rfl rfl ?_
            refine Wk.aload_n (k := 0) (q := 46) (by decide +kernel) rfl rfl rfl ?_
            refine Wk.getR (r := 5) (q := 49) f_Swing_36 (by decide +kernel) O_1 (by decide) rfl rfl rfl ?_
            refine Wk.iload_n (k := 1) (q := 50) (by decide +kernel) rfl rfl rfl ?_
            refine Wk.iaload (q := 51) (by decide +kernel) A_5 (by first | omega | exact bi_rng _) (by first | omega | exact bi_rng _) rfl ?_
            refine Wk.iadd (q := 52) (by decide +kernel) rfl ?_
            refine Wk.icmp_ge (off := (22)) (t := 74) (q := 55) (by decide +kernel) (by decide) rfl (by first | omega | exact bi_rng _) (by first | omega | exact bi_rng _) (fun hc52 => ?_) (fun hc52 => ?_)
            · refine Wk.iinc (i := 6) (n := 1) (q := 77) (by decide +kernel) rfl (by decide) rfl (fun _ h => h) rfl ?_
              refine Wk.goto (off := (-54)) (q := 23) (by decide +kernel) (by decide) ?_
              exact ih (m, _) ⟨hM.cong (fun v => ⟨fun q => q.elim (fun ⟨cx, cy, q1, q2, q3⟩ => ⟨cx, cy, q1, by omega, q3⟩) (fun ⟨cx, q1, q2⟩ => ⟨cx, y, q1, by omega, q2⟩), fun ⟨cx, cy, q1, q2, q3⟩ => by
                rcases Classical.em (cy = y) with e | e
                · exact Or.inr ⟨cx, q1, by rw [← e]; exact q3⟩
                · exact Or.inl ⟨cx, cy, q1, by omega, q3⟩⟩), hm0, hm1⟩
            · omega
          · intro x m x0 x1 hM ih2
            obtain ⟨hM, hm0, hm1⟩ := hM
            have hw := cwat_range hC.1 x y
            refine Wk.iload (i := 7) (q := 43) (by decide +kernel) rfl rfl ?_
            refine Wk.iload (i := 4) (q := 45) (by decide +kernel) rfl rfl ?_
            refine Wk.aload_n (k := 0) (q := 46) (by decide +kernel) rfl rfl rfl ?_
            refine Wk.getR (r := 5) (q := 49) f_Swing_36 (by decide +kernel) O_1 (by decide) rfl rfl rfl ?_
            refine Wk.iload_n (k := 1) (q := 50) (by decide +kernel) rfl rfl rfl ?_
            refine Wk.iaload (q := 51) (by decide +kernel) A_5 (by first | omega | exact bi_rng _) (by first | omega | exact bi_rng _) rfl ?_
            refine Wk.iadd (q := 52) (by decide +kernel) rfl ?_
            refine Wk.icmp_ge (off := (22)) (t := 74) (q := 55) (by decide +kernel) (by decide) rfl (by first | omega | exact bi_rng _) (by first | omega | exact bi_rng _) (fun hc52 => ?_) (fun hc52 => ?_)
            · omega
            · refine Wk.iload_n (k := 3) (q := 56) (by decide +kernel) rfl rfl rfl ?_
              refine Wk.aload_n (k := 0) (q := 57) (by decide +kernel) rfl rfl rfl ?_
              refine Wk.iload (i := 7) (q := 59) (by decide +kernel) rfl rfl ?_
              refine Wk.iload (i := 6) (q := 61) (by decide +kernel) rfl rfl ?_
              refine Wk.cVi (q := 64) l_Swing_78 m_Harb_water (by decide +kernel) (fun _ h => h) O_1 rfl (Nat.le_of_ble_eq_true rfl) (Nat.le_of_ble_eq_true rfl) rfl (c_Harb_water (by omega) (by omega) hC.1) rfl ?_
              refine Wk.min (q := 67) l_Swing_73 (by decide +kernel) (by first | omega | exact bi_rng _) (by first | omega | exact bi_rng _) (Nat.le_of_ble_eq_true rfl) rfl ?_
              refine Wk.istore_n (k := 3) (q := 68) (by decide +kernel) rfl (by decide) rfl (fun _ h => h) rfl ?_
              refine Wk.iinc (i := 7) (n := 1) (q := 71) (by decide +kernel) rfl (by decide) rfl (fun _ h => h) rfl ?_
              refine Wk.goto (off := (-30)) (q := 41) (by decide +kernel) (by decide) ?_
              refine ih2 _ ⟨(hM.add (v := cwat I x y) (by omega)).cong (fun v => ⟨fun q => q.elim (fun q => q.elim Or.inl (fun ⟨cx, q1, q2⟩ => Or.inr ⟨cx, by omega, q2⟩)) (fun q => Or.inr ⟨x, by omega, q⟩), fun q => q.elim (fun q => Or.inl (Or.inl q)) (fun ⟨cx, q1, q2⟩ => ?_)⟩), ?_, ?_⟩
              · rcases Classical.em (cx = x) with e | e
                · exact Or.inr (by rw [← e]; exact q2)
                · exact Or.inl (Or.inr ⟨cx, by omega, q2⟩)
              · split <;> omega
              · split <;> omega
        refine Wk.iload (i := 4) (q := 39) (by decide +kernel) rfl rfl ?_
        refine Wk.istore (i := 7) (q := 41) (by decide +kernel) (by decide) rfl (fun _ h => h) rfl ?_
        exact key2
  refine Wk.ldc (z := 2147483647) (q := 2) k_Swing_69 (by decide +kernel) (by decide +kernel) rfl ?_
  refine Wk.istore_n (k := 3) (q := 3) (by decide +kernel) rfl (by decide) rfl (fun _ h => h) rfl ?_
  refine Wk.aload_n (k := 0) (q := 4) (by decide +kernel) rfl rfl rfl ?_
  refine Wk.iload_n (k := 1) (q := 5) (by decide +kernel) rfl rfl rfl ?_
  refine Wk.iload_n (k := 2) (q := 6) (by decide +kernel) rfl rfl rfl ?_
  refine Wk.cSi (q := 9) l_Swing_27 m_Swing_firstX (by decide +kernel) (fun _ h => h) (Nat.le_of_ble_eq_true rfl) (Nat.le_of_ble_eq_true rfl) rfl (c_Swing_firstX (by omega) (by omega) (by omega) (by omega)) rfl ?_
  refine Wk.istore (i := 4) (q := 11) (by decide +kernel) (by decide) rfl (fun _ h => h) rfl ?_
  refine Wk.aload_n (k := 0) (q := 12) (by decide +kernel) rfl rfl rfl ?_
  refine Wk.iload_n (k := 1) (q := 13) (by decide +kernel) rfl rfl rfl ?_
  refine Wk.iload_n (k := 2) (q := 14) (by decide +kernel) rfl rfl rfl ?_
  refine Wk.cSi (q := 17) l_Swing_33 m_Swing_firstY (by decide +kernel) (fun _ h => h) (Nat.le_of_ble_eq_true rfl) (Nat.le_of_ble_eq_true rfl) rfl (c_Swing_firstY (by omega) (by omega) (by omega) (by omega)) rfl ?_
  refine Wk.istore (i := 5) (q := 19) (by decide +kernel) (by decide) rfl (fun _ h => h) rfl ?_
  refine Wk.iload (i := 5) (q := 21) (by decide +kernel) rfl rfl ?_
  refine Wk.istore (i := 6) (q := 23) (by decide +kernel) (by decide) rfl (fun _ h => h) rfl ?_
  exact key none
theorem c_Swing_leastWater {a F : Int} (h0 : 0 ≤ a) (h1 : a < I 1 4) (hF : 0 ≤ F ∧ F ≤ 255) (hC : CW I) : Wk xs x_Swing_leastWater (d + 3) 0 0 0 [some (vr 1), some (vi a), some (vi F), none, none] [] X2 I L (p2 fun v I' L' => (∃ z, v = some (vi z) ∧ MinOf 2147483647 (fun v => ∃ w cx cy, (0 ≤ w ∧ w < 8) ∧ bt F w = true ∧ cLO I a w cx cy ∧ v = cwat I cx cy) z ∧ 0 ≤ z ∧ z ≤ 2147483647) ∧ I' = I ∧ L' = L) := by
  have key : Wk xs x_Swing_leastWater (d + 3) 0 0 6 [some (vr 1), some (vi a), some (vi F), some (vi 2147483647), some (vi 0)] [] X2 I L (p2 fun v I' L' => (∃ z, v = some (vi z) ∧ MinOf 2147483647 (fun v => ∃ w cx cy, (0 ≤ w ∧ w < 8) ∧ bt F w = true ∧ cLO I a w cx cy ∧ v = cwat I cx cy) z ∧ 0 ≤ z ∧ z ≤ 2147483647) ∧ I' = I ∧ L' = L) := by
    refine loopS (σ := Int) (fun k m => Wk xs x_Swing_leastWater (d + 3) 0 0 6 [some (vr 1), some (vi a), some (vi F), some (vi m), some (vi k)] [] X2 I L (p2 fun v I' L' => (∃ z, v = some (vi z) ∧ MinOf 2147483647 (fun v => ∃ w cx cy, (0 ≤ w ∧ w < 8) ∧ bt F w = true ∧ cLO I a w cx cy ∧ v = cwat I cx cy) z ∧ 0 ≤ z ∧ z ≤ 2147483647) ∧ I' = I ∧ L' = L)) (fun k m => MinOf 2147483647 (fun v => ∃ w cx cy, (0 ≤ w ∧ w < k) ∧ bt F w = true ∧ cLO I a w cx cy ∧ v = cwat I cx cy) m ∧ 0 ≤ m ∧ m ≤ 2147483647) 8 0 2147483647 (by omega) ⟨MinOf.none (fun v hv => by obtain ⟨w, cx, cy, q1, q2⟩ := hv; omega), by omega, by omega⟩ ?_ ?_
    · intro m hJ
      refine Wk.iload (i := 4) (q := 8) (by decide +kernel) rfl rfl ?_
      refine Wk.bipush (n := 8) (q := 10) (by decide +kernel) (by decide +kernel) rfl ?_
      refine Wk.icmp_ge (off := (30)) (t := 40) (q := 13) (by decide +kernel) (by decide) rfl (by first | omega | exact bi_rng _) (by first | omega | exact bi_rng _) (fun hc10 => ?_) (fun hc10 => ?_)
      · refine Wk.iload_n (k := 3) (q := 41) (by decide +kernel) rfl rfl rfl ?_
        exact Wk.riP (by decide +kernel) rfl (⟨⟨m, rfl, hJ.1, hJ.2⟩, rfl, rfl⟩)
      · omega
    · intro k m k0 k1 hJ ih
      obtain ⟨hJ, hm0, hm1⟩ := hJ
      refine Wk.iload (i := 4) (q := 8) (by decide +kernel) rfl rfl ?_
      refine Wk.bipush (n := 8) (q := 10) (by decide +kernel) (by decide +kernel) rfl ?_
      refine Wk.icmp_ge (off := (30)) (t := 40) (q := 13) (by decide +kernel) (by decide) rfl (by first | omega | exact bi_rng _) (by first | omega | exact bi_rng _) (fun hc10 => ?_) (fun hc10 => ?_)
      · omega
      · refine Wk.iload_n (k := 2) (q := 14) (by decide +kernel) rfl rfl rfl ?_
        refine Wk.iload (i := 4) (q := 16) (by decide +kernel) rfl rfl ?_
        refine Wk.cSi (q := 19) l_Swing_43 m_Swing_blows (by decide +kernel) (fun _ h => h) (Nat.le_of_ble_eq_true rfl) (Nat.le_of_ble_eq_true rfl) rfl (c_Swing_blows (by omega) (by omega) (by omega) (by omega)) rfl ?_
        refine Wk.ifB_eq (off := (15)) (t := 34) (q := 22) (by decide +kernel) (by decide) rfl (fun hc19 => ?_) (fun hc19 => ?_)
        · refine Wk.iinc (i := 4) (n := 1) (q := 37) (by decide +kernel) rfl (by decide) rfl (fun _ h => h) rfl ?_
          refine Wk.goto (off := (-31)) (q := 6) (by decide +kernel) (by decide) ?_
          first
            | (refine ih m ⟨hJ.cong (fun v => ⟨fun ⟨w, cx, cy, q1, q2⟩ => ⟨w, cx, cy, by omega, q2⟩, fun ⟨w, cx, cy, q1, q2, q3⟩ => ⟨w, cx, cy, ?_, q2, q3⟩⟩), hm0, hm1⟩
               refine ⟨q1.1, ?_⟩
               rcases Classical.em (w = k) with e | e
               · rw [e] at q2
                 exact absurd q2 hc19
               · omega)
            | (have hzP : (fun v => ∃ cx cy, cLO I' a k cx cy ∧ v = cwat I' cx cy) z := by
                 rcases hz.2 with ⟨q, -⟩ | q
                 · omega
                 · exact q
               refine ih _ ⟨(hJ.join hz hzP (by omega)).cong (fun v => ⟨fun q => q.elim (fun ⟨w, cx, cy, q1, q2⟩ => ⟨w, cx, cy, by omega, q2⟩) (fun ⟨cx, cy, q1, q2⟩ => ⟨k, cx, cy, by omega, hc19, q1, q2⟩), fun ⟨w, cx, cy, q1, q2, q3⟩ => ?_⟩), ?_, ?_⟩
               · rcases Classical.em (w = k) with e | e
                 · subst e
                   exact Or.inr ⟨cx, cy, q3⟩
                 · exact Or.inl ⟨w, cx, cy, by omega, q2, q3⟩
               · split <;> omega
               · split <;> omega)
        · refine Wk.iload_n (k := 3) (q := 23) (by decide +kernel) rfl rfl rfl ?_
          refine Wk.aload_n (k := 0) (q := 24) (by decide +kernel) rfl rfl rfl ?_
          refine Wk.iload_n (k := 1) (q := 25) (by decide +kernel) rfl rfl rfl ?_
          refine Wk.iload (i := 4) (q := 27) (by decide +kernel) rfl rfl ?_
          refine Wk.cS (q := 30) l_Swing_70 m_Swing_leastWaterBy (by decide +kernel) (fun _ h => h) (Nat.le_of_ble_eq_true rfl) (Nat.le_of_ble_eq_true rfl) rfl (c_Swing_leastWaterBy h0 h1 k0 k1 hC) rfl (fun v I' L' hP => ?_)
          obtain ⟨⟨z, rfl, hz, hz0, hz1⟩, rfl, rfl⟩ := hP
          refine Wk.min (q := 33) l_Swing_73 (by decide +kernel) (by first | omega | exact bi_rng _) (by first | omega | exact bi_rng _) (Nat.le_of_ble_eq_true rfl) rfl ?_
          refine Wk.istore_n (k := 3) (q := 34) (by decide +kernel) rfl (by decide) rfl (fun _ h => h) rfl ?_
          refine Wk.iinc (i := 4) (n := 1) (q := 37) (by decide +kernel) rfl (by decide) rfl (fun _ h => h) rfl ?_
          refine Wk.goto (off := (-31)) (q := 6) (by decide +kernel) (by decide) ?_
          first
            | (refine ih m ⟨hJ.cong (fun v => ⟨fun ⟨w, cx, cy, q1, q2⟩ => ⟨w, cx, cy, by omega, q2⟩, fun ⟨w, cx, cy, q1, q2, q3⟩ => ⟨w, cx, cy, ?_, q2, q3⟩⟩), hm0, hm1⟩
               refine ⟨q1.1, ?_⟩
               rcases Classical.em (w = k) with e | e
               · rw [e] at q2
                 exact absurd q2 hc19
               · omega)
            | (have hzP : (fun v => ∃ cx cy, cLO I' a k cx cy ∧ v = cwat I' cx cy) z := by
                 rcases hz.2 with ⟨q, -⟩ | q
                 · omega
                 · exact q
               refine ih _ ⟨(hJ.join hz hzP (by omega)).cong (fun v => ⟨fun q => q.elim (fun ⟨w, cx, cy, q1, q2⟩ => ⟨w, cx, cy, by omega, q2⟩) (fun ⟨cx, cy, q1, q2⟩ => ⟨k, cx, cy, by omega, hc19, q1, q2⟩), fun ⟨w, cx, cy, q1, q2, q3⟩ => ?_⟩), ?_, ?_⟩
               · rcases Classical.em (w = k) with e | e
                 · subst e
                   exact Or.inr ⟨cx, cy, q3⟩
                 · exact Or.inl ⟨w, cx, cy, by omega, q2, q3⟩
               · split <;> omega
               · split <;> omega)
  refine Wk.ldc (z := 2147483647) (q := 2) k_Swing_69 (by decide +kernel) (by decide +kernel) rfl ?_
  refine Wk.istore_n (k := 3) (q := 3) (by decide +kernel) rfl (by decide) rfl (fun _ h => h) rfl ?_
  refine Wk.iconst (n := 0) (q := 4) (by decide +kernel) rfl ?_
  refine Wk.istore (i := 4) (q := 6) (by decide +kernel) (by decide) rfl (fun _ h => h) rfl ?_
  exact key
end SWH
