/-! DANGER, THREATS, cells swept -/
theorem so_r5 (P : Int → Prop) {n : Nat} (h : n ≤ 5) : 0 ≤ so P n ∧ so P n < 32 := by
  have h1 := so_range P n
  have h2 : 2 ^ n ≤ 2 ^ 5 := Nat.pow_le_pow_right (by decide) h
  omega
theorem ml_iff {W H t : Int} {dep : Int → Int} {F dr ch sd x y : Int} (hd : 1 ≤ dr) : ML W H t dep F dr ch sd x y ↔ ∀ v, (∃ w cx cy, (0 ≤ w ∧ w < 8) ∧ bt F w = true ∧ LO ch sd x y w cx cy ∧ v = wat W H t dep cx cy) → dr ≤ v := by
  constructor
  · intro h v ⟨w, cx, cy, q1, q2, q3, q4⟩
    rw [q4]
    exact (h w cx cy q1.1 q1.2 q2 q3).2
  · intro h w cx cy q0 q1 q2 q3
    have h1 := h _ ⟨w, cx, cy, ⟨q0, q1⟩, q2, q3, rfl⟩
    refine ⟨Classical.not_not.mp (fun hn => ?_), h1⟩
    rw [wat_out hn] at h1
    omega
/-- IN DANGER, as a set, by winds F -/
abbrev cDP (I : IM) (F a : Int) : Prop := ¬ cML I F a ∨ ∃ b, (0 ≤ b ∧ b < I 1 4) ∧ ¬ b = a ∧ cCL I F a b
noncomputable def cDG (I : IM) (F : Int) : Int := so (cDP I F) (I 1 4).toNat
theorem cl_zero {I : IM} {F a : Int} : so (fun b => ¬ b = a ∧ cCL I F a b) (I 1 4).toNat = 0 ↔ ¬ ∃ b, (0 ≤ b ∧ b < I 1 4) ∧ ¬ b = a ∧ cCL I F a b := by
  rw [so_zero]
  constructor
  · intro h ⟨b, h1, h2⟩
    exact h b h1.1 (by omega) h2
  · intro h b h1 h2 h3
    exact h ⟨b, by omega, h3⟩
/-- one more wind -/
def orb (F w : Int) : Int := (nZ F ||| nZ (nZ 1 <<< (nZ w &&& 31)).toInt).toInt
theorem orb_dec : ∀ f, f < 256 → ∀ w, w < 8 → 0 ≤ orb (f : Nat) (w : Nat) ∧ orb (f : Nat) (w : Nat) ≤ 255 := by decide +kernel
theorem orb_range {F w : Int} (hF : 0 ≤ F ∧ F ≤ 255) (hw : 0 ≤ w ∧ w < 8) : 0 ≤ orb F w ∧ orb F w ≤ 255 := by
  have h := orb_dec F.toNat (by omega) w.toNat (by omega)
  rw [Int.toNat_of_nonneg hF.1, Int.toNat_of_nonneg hw.1] at h
  exact h
theorem cDG_range {I : IM} (h : I 1 4 ≤ 5) (F : Int) : 0 ≤ cDG I F ∧ cDG I F < 32 := so_r5 _ (by omega)
section SWI
variable {xs : RO} {d : Nat} {I : IM} {L : LM}

theorem c_Swing_liesWell {a F : Int} (h0 : 0 ≤ a) (h1 : a < I 1 4) (hF : 0 ≤ F ∧ F ≤ 255) (hC : CW I) : Wk xs x_Swing_liesWell (d + 4) 0 0 0 [some (vr 1), some (vi a), some (vi F)] [] X2 I L (pI (bi (cML I F a)) I L) := by
  obtain ⟨⟨hW, hH, -, -, hA, -, -⟩, hS, hP⟩ := id hC
  obtain ⟨hdr, hch, hsd⟩ := hS a (Or.inl ⟨h0, h1⟩)
  obtain ⟨hx, hy⟩ := hP a h0 h1
  refine Wk.aload_n (k := 0) (q := 1) (by decide +kernel) rfl rfl rfl ?_
  refine Wk.iload_n (k := 1) (q := 2) (by decide +kernel) rfl rfl rfl ?_
  refine Wk.iload_n (k := 2) (q := 3) (by decide +kernel) rfl rfl rfl ?_
  refine Wk.cS (q := 6) l_Swing_81 m_Swing_leastWater (by decide +kernel) (fun _ h => h) (Nat.le_of_ble_eq_true rfl) (Nat.le_of_ble_eq_true rfl) rfl (c_Swing_leastWater h0 h1 hF hC) rfl (fun v I' L' hP => ?_)
  obtain ⟨⟨z, rfl, hz, hz0, hz1⟩, rfl, rfl⟩ := hP
  have hg := (hz.ge (d := I' 3 a) (by omega)).trans (ml_iff hdr.1).symm
  refine Wk.aload_n (k := 0) (q := 7) (by decide +kernel) rfl rfl rfl ?_
  refine Wk.getR (r := 3) (q := 10) f_Swing_84 (by decide +kernel) O_1 (by decide) rfl rfl rfl ?_
  refine Wk.iload_n (k := 1) (q := 11) (by decide +kernel) rfl rfl rfl ?_
  refine Wk.iaload (q := 12) (by decide +kernel) A_3 (by first | omega | exact bi_rng _) (by first | omega | exact bi_rng _) rfl ?_
  refine Wk.icmp_lt (off := (7)) (t := 19) (q := 15) (by decide +kernel) (by decide) rfl (by first | omega | exact bi_rng _) (by first | omega | exact bi_rng _) (fun hc12 => ?_) (fun hc12 => ?_)
  · refine Wk.iconst (n := 0) (q := 20) (by decide +kernel) rfl ?_
    exact Wk.rZ (by decide +kernel) rfl (by first | omega | decide | exact bi_01 _) (by first | (rw [bi_f (fun q => by have := hg.mpr q; omega)]; done) | (rw [bi_t (hg.mp (by omega))]; done))
  · refine Wk.iconst (n := 1) (q := 16) (by decide +kernel) rfl ?_
    refine Wk.goto (off := (4)) (q := 20) (by decide +kernel) (by decide) ?_
    exact Wk.rZ (by decide +kernel) rfl (by first | omega | decide | exact bi_01 _) (by first | (rw [bi_f (fun q => by have := hg.mpr q; omega)]; done) | (rw [bi_t (hg.mp (by omega))]; done))
theorem c_Swing_inDanger {F : Int} (hF : 0 ≤ F ∧ F ≤ 255) (hC : CW I) : Wk xs x_Swing_inDanger (d + 5) 0 0 0 [some (vr 1), some (vi F), none, none] [] X2 I L (pI (cDG I F) I L) := by
  have hA : 0 ≤ I 1 4 ∧ I 1 4 ≤ 5 := hC.1.2.2.2.2.1
  have key : Wk xs x_Swing_inDanger (d + 5) 0 0 4 [some (vr 1), some (vi F), some (vi (so (cDP I F) (0 : Int).toNat)), some (vi 0)] [] X2 I L (pI (cDG I F) I L) := by
    refine loopI (fun k => Wk xs x_Swing_inDanger (d + 5) 0 0 4 [some (vr 1), some (vi F), some (vi (so (cDP I F) k.toNat)), some (vi k)] [] X2 I L (pI (cDG I F) I L)) (I 1 4) 0 (by omega) ?_ ?_
    · refine Wk.iload_n (k := 3) (q := 5) (by decide +kernel) rfl rfl rfl ?_
      refine Wk.aload_n (k := 0) (q := 6) (by decide +kernel) rfl rfl rfl ?_
      refine Wk.getI (z := 4) (q := 9) f_Swing_58 (by decide +kernel) O_1 (by decide) rfl rfl rfl ?_
      refine Wk.icmp_ge (off := (33)) (t := 42) (q := 12) (by decide +kernel) (by decide) rfl (by first | omega | exact bi_rng _) (by first | omega | exact bi_rng _) (fun hc9 => ?_) (fun hc9 => ?_)
      · refine Wk.iload_n (k := 2) (q := 43) (by decide +kernel) rfl rfl rfl ?_
        exact Wk.rI (by decide +kernel) rfl (rfl)
      · omega
    · intro k k0 k1 ih
      have hs := so_range (cDP I F) k.toNat
      rw [so_step _ k0] at ih
      refine Wk.iload_n (k := 3) (q := 5) (by decide +kernel) rfl rfl rfl ?_
      refine Wk.aload_n (k := 0) (q := 6) (by decide +kernel) rfl rfl rfl ?_
      refine Wk.getI (z := 4) (q := 9) f_Swing_58 (by decide +kernel) O_1 (by decide) rfl rfl rfl ?_
      refine Wk.icmp_ge (off := (33)) (t := 42) (q := 12) (by decide +kernel) (by decide) rfl (by first | omega | exact bi_rng _) (by first | omega | exact bi_rng _) (fun hc9 => ?_) (fun hc9 => ?_)
      · omega
      · refine Wk.aload_n (k := 0) (q := 13) (by decide +kernel) rfl rfl rfl ?_
        refine Wk.iload_n (k := 3) (q := 14) (by decide +kernel) rfl rfl rfl ?_
        refine Wk.iload_n (k := 1) (q := 15) (by decide +kernel) rfl rfl rfl ?_
        refine Wk.cSi (q := 18) l_Swing_103 m_Swing_liesWell (by decide +kernel) (fun _ h => h) (Nat.le_of_ble_eq_true rfl) (Nat.le_of_ble_eq_true rfl) rfl (c_Swing_liesWell k0 k1 hF hC) rfl ?_
        refine Wk.ifB_eq (off := (12)) (t := 30) (q := 21) (by decide +kernel) (by decide) rfl (fun hc18 => ?_) (fun hc18 => ?_)
        · refine Wk.iload_n (k := 2) (q := 31) (by decide +kernel) rfl rfl rfl ?_
          refine Wk.iconst (n := 1) (q := 32) (by decide +kernel) rfl ?_
          refine Wk.iload_n (k := 3) (q := 33) (by decide +kernel) rfl rfl rfl ?_
          refine Wk.ishl (q := 34) (by decide +kernel) rfl ?_
          refine Wk.ior (q := 35) (by decide +kernel) rfl ?_
          refine Wk.istore_n (k := 2) (q := 36) (by decide +kernel) rfl (by decide) rfl (fun _ h => h) rfl ?_
          refine Wk.iinc (i := 3) (n := 1) (q := 39) (by decide +kernel) rfl (by decide) rfl (fun _ h => h) rfl ?_
          refine Wk.goto (off := (-35)) (q := 4) (by decide +kernel) (by decide) ?_
          first
            | (rw [or_above hs.1 hs.2 k0 (by omega)]
               first
                 | (rw [bi_t (Or.inl hc18), Int.one_mul] at ih; exact ih)
                 | (rw [bi_t (Or.inr (Classical.not_not.mp (fun z => hc27 (cl_zero.mpr z)))), Int.one_mul] at ih; exact ih))
            | (rw [bi_f (fun z => by rcases z with z | z; exact z hc18; exact (cl_zero.mp hc27) z), Int.zero_mul, Int.add_zero] at ih
               exact ih)
        · refine Wk.aload_n (k := 0) (q := 22) (by decide +kernel) rfl rfl rfl ?_
          refine Wk.iload_n (k := 3) (q := 23) (by decide +kernel) rfl rfl rfl ?_
          refine Wk.iload_n (k := 1) (q := 24) (by decide +kernel) rfl rfl rfl ?_
          refine Wk.cSi (q := 27) l_Swing_94 m_Swing_clashesOf (by decide +kernel) (fun _ h => h) (Nat.le_of_ble_eq_true rfl) (Nat.le_of_ble_eq_true rfl) rfl (c_Swing_clashesOf k0 k1 hF hC) rfl ?_
          refine Wk.if_eq (off := (9)) (t := 36) (q := 30) (by decide +kernel) (by decide) rfl (by have := so_r5 (fun b => ¬ b = k ∧ cCL I F k b) (n := (I 1 4).toNat) (by omega); omega) (fun hc27 => ?_) (fun hc27 => ?_)
          · refine Wk.iinc (i := 3) (n := 1) (q := 39) (by decide +kernel) rfl (by decide) rfl (fun _ h => h) rfl ?_
            refine Wk.goto (off := (-35)) (q := 4) (by decide +kernel) (by decide) ?_
            first
              | (rw [or_above hs.1 hs.2 k0 (by omega)]
                 first
                   | (rw [bi_t (Or.inl hc18), Int.one_mul] at ih; exact ih)
                   | (rw [bi_t (Or.inr (Classical.not_not.mp (fun z => hc27 (cl_zero.mpr z)))), Int.one_mul] at ih; exact ih))
              | (rw [bi_f (fun z => by rcases z with z | z; exact z hc18; exact (cl_zero.mp hc27) z), Int.zero_mul, Int.add_zero] at ih
                 exact ih)
          · refine Wk.iload_n (k := 2) (q := 31) (by decide +kernel) rfl rfl rfl ?_
            refine Wk.iconst (n := 1) (q := 32) (by decide +kernel) rfl ?_
            refine Wk.iload_n (k := 3) (q := 33) (by decide +kernel) rfl rfl rfl ?_
            refine Wk.ishl (q := 34) (by decide +kernel) rfl ?_
            refine Wk.ior (q := 35) (by decide +kernel) rfl ?_
            refine Wk.istore_n (k := 2) (q := 36) (by decide +kernel) rfl (by decide) rfl (fun _ h => h) rfl ?_
            refine Wk.iinc (i := 3) (n := 1) (q := 39) (by decide +kernel) rfl (by decide) rfl (fun _ h => h) rfl ?_
            refine Wk.goto (off := (-35)) (q := 4) (by decide +kernel) (by decide) ?_
            first
              | (rw [or_above hs.1 hs.2 k0 (by omega)]
                 first
                   | (rw [bi_t (Or.inl hc18), Int.one_mul] at ih; exact ih)
                   | (rw [bi_t (Or.inr (Classical.not_not.mp (fun z => hc27 (cl_zero.mpr z)))), Int.one_mul] at ih; exact ih))
              | (rw [bi_f (fun z => by rcases z with z | z; exact z hc18; exact (cl_zero.mp hc27) z), Int.zero_mul, Int.add_zero] at ih
                 exact ih)
  refine Wk.iconst (n := 0) (q := 1) (by decide +kernel) rfl ?_
  refine Wk.istore_n (k := 2) (q := 2) (by decide +kernel) rfl (by decide) rfl (fun _ h => h) rfl ?_
  refine Wk.iconst (n := 0) (q := 3) (by decide +kernel) rfl ?_
  refine Wk.istore_n (k := 3) (q := 4) (by decide +kernel) rfl (by decide) rfl (fun _ h => h) rfl ?_
  exact key
theorem c_Swing_threats (hC : CW I) : Wk xs x_Swing_threats (d + 6) 0 0 0 [some (vr 1), none, none, none, none] [] X2 I L (pI (so (fun w => ¬ orb (I 1 3) w = I 1 3 ∧ ¬ cDG I (orb (I 1 3) w) = cDG I (I 1 3)) 8) I L) := by
  have hA : 0 ≤ I 1 4 ∧ I 1 4 ≤ 5 := hC.1.2.2.2.2.1
  have hF : 1 ≤ I 1 3 ∧ I 1 3 ≤ 255 := hC.1.2.2.2.1
  have hd0 := cDG_range hA.2 (I 1 3)
  have key : Wk xs x_Swing_threats (d + 6) 0 0 13 [some (vr 1), some (vi (cDG I (I 1 3))), some (vi (so (fun w => ¬ orb (I 1 3) w = I 1 3 ∧ ¬ cDG I (orb (I 1 3) w) = cDG I (I 1 3)) (0 : Int).toNat)), some (vi 0), none] [] X2 I L (pI (so (fun w => ¬ orb (I 1 3) w = I 1 3 ∧ ¬ cDG I (orb (I 1 3) w) = cDG I (I 1 3)) 8) I L) := by
    refine loopS (σ := Option AV) (fun k s => Wk xs x_Swing_threats (d + 6) 0 0 13 [some (vr 1), some (vi (cDG I (I 1 3))), some (vi (so (fun w => ¬ orb (I 1 3) w = I 1 3 ∧ ¬ cDG I (orb (I 1 3) w) = cDG I (I 1 3)) k.toNat)), some (vi k), s] [] X2 I L (pI (so (fun w => ¬ orb (I 1 3) w = I 1 3 ∧ ¬ cDG I (orb (I 1 3) w) = cDG I (I 1 3)) 8) I L)) (fun _ _ => True) 8 0 none (by omega) trivial ?_ ?_
    · intro s _
      refine Wk.iload_n (k := 3) (q := 14) (by decide +kernel) rfl rfl rfl ?_
      refine Wk.bipush (n := 8) (q := 16) (by decide +kernel) (by decide +kernel) rfl ?_
      refine Wk.icmp_ge (off := (44)) (t := 60) (q := 19) (by decide +kernel) (by decide) rfl (by first | omega | exact bi_rng _) (by first | omega | exact bi_rng _) (fun hc16 => ?_) (fun hc16 => ?_)
      · refine Wk.iload_n (k := 2) (q := 61) (by decide +kernel) rfl rfl rfl ?_
        exact Wk.rI (by decide +kernel) rfl (rfl)
      · omega
    · intro k s k0 k1 _ ih
      have hs := so_range (fun w => ¬ orb (I 1 3) w = I 1 3 ∧ ¬ cDG I (orb (I 1 3) w) = cDG I (I 1 3)) k.toNat
      have ho := orb_range (F := I 1 3) (w := k) (by omega) (by omega)
      have hd1 := cDG_range hA.2 (orb (I 1 3) k)
      rw [so_step _ k0] at ih
      refine Wk.iload_n (k := 3) (q := 14) (by decide +kernel) rfl rfl rfl ?_
      refine Wk.bipush (n := 8) (q := 16) (by decide +kernel) (by decide +kernel) rfl ?_
      refine Wk.icmp_ge (off := (44)) (t := 60) (q := 19) (by decide +kernel) (by decide) rfl (by first | omega | exact bi_rng _) (by first | omega | exact bi_rng _) (fun hc16 => ?_) (fun hc16 => ?_)
      · omega
      · refine Wk.aload_n (k := 0) (q := 20) (by decide +kernel) rfl rfl rfl ?_
        refine Wk.getI (z := 3) (q := 23) f_Swing_39 (by decide +kernel) O_1 (by decide) rfl rfl rfl ?_
        refine Wk.iconst (n := 1) (q := 24) (by decide +kernel) rfl ?_
        refine Wk.iload_n (k := 3) (q := 25) (by decide +kernel) rfl rfl rfl ?_
        refine Wk.ishl (q := 26) (by decide +kernel) rfl ?_
        refine Wk.ior (q := 27) (by decide +kernel) rfl ?_
        refine Wk.istore (i := 4) (q := 29) (by decide +kernel) (by decide) rfl (fun _ h => h) rfl ?_
        rw [show (nZ (I 1 3) ||| nZ (nZ 1 <<< (nZ k &&& 31)).toInt).toInt = orb (I 1 3) k from rfl]
        refine Wk.iload (i := 4) (q := 31) (by decide +kernel) rfl rfl ?_
        refine Wk.aload_n (k := 0) (q := 32) (by decide +kernel) rfl rfl rfl ?_
        refine Wk.getI (z := 3) (q := 35) f_Swing_39 (by decide +kernel) O_1 (by decide) rfl rfl rfl ?_
        refine Wk.icmp_eq (off := (19)) (t := 54) (q := 38) (by decide +kernel) (by decide) rfl (by first | omega | exact ⟨by have := ho.1; omega, by have := ho.2; omega⟩) (by first | omega | exact ⟨by have := ho.1; omega, by have := ho.2; omega⟩) (fun hc35 => ?_) (fun hc35 => ?_)
        · refine Wk.iinc (i := 3) (n := 1) (q := 57) (by decide +kernel) rfl (by decide) rfl (fun _ h => h) rfl ?_
          refine Wk.goto (off := (-44)) (q := 13) (by decide +kernel) (by decide) ?_
          first
            | (rw [or_above hs.1 hs.2 k0 (by omega)]
               rw [bi_t ⟨hc35, hc45⟩, Int.one_mul] at ih
               exact ih _ trivial)
            | (rw [bi_f (fun z => by first | exact z.1 hc35 | exact z.2 hc45), Int.zero_mul, Int.add_zero] at ih
               exact ih _ trivial)
        · refine Wk.aload_n (k := 0) (q := 39) (by decide +kernel) rfl rfl rfl ?_
          refine Wk.iload (i := 4) (q := 41) (by decide +kernel) rfl rfl ?_
          refine Wk.cSi (q := 44) l_Swing_107 m_Swing_inDanger (by decide +kernel) (fun _ h => h) (Nat.le_of_ble_eq_true rfl) (Nat.le_of_ble_eq_true rfl) rfl (c_Swing_inDanger ho hC) rfl ?_
          refine Wk.iload_n (k := 1) (q := 45) (by decide +kernel) rfl rfl rfl ?_
          refine Wk.icmp_eq (off := (9)) (t := 54) (q := 48) (by decide +kernel) (by decide) rfl (by first | omega | exact bi_rng _) (by first | omega | exact bi_rng _) (fun hc45 => ?_) (fun hc45 => ?_)
          · refine Wk.iinc (i := 3) (n := 1) (q := 57) (by decide +kernel) rfl (by decide) rfl (fun _ h => h) rfl ?_
            refine Wk.goto (off := (-44)) (q := 13) (by decide +kernel) (by decide) ?_
            first
              | (rw [or_above hs.1 hs.2 k0 (by omega)]
                 rw [bi_t ⟨hc35, hc45⟩, Int.one_mul] at ih
                 exact ih _ trivial)
              | (rw [bi_f (fun z => by first | exact z.1 hc35 | exact z.2 hc45), Int.zero_mul, Int.add_zero] at ih
                 exact ih _ trivial)
          · refine Wk.iload_n (k := 2) (q := 49) (by decide +kernel) rfl rfl rfl ?_
            refine Wk.iconst (n := 1) (q := 50) (by decide +kernel) rfl ?_
            refine Wk.iload_n (k := 3) (q := 51) (by decide +kernel) rfl rfl rfl ?_
            refine Wk.ishl (q := 52) (by decide +kernel) rfl ?_
            refine Wk.ior (q := 53) (by decide +kernel) rfl ?_
            refine Wk.istore_n (k := 2) (q := 54) (by decide +kernel) rfl (by decide) rfl (fun _ h => h) rfl ?_
            refine Wk.iinc (i := 3) (n := 1) (q := 57) (by decide +kernel) rfl (by decide) rfl (fun _ h => h) rfl ?_
            refine Wk.goto (off := (-44)) (q := 13) (by decide +kernel) (by decide) ?_
            first
              | (rw [or_above hs.1 hs.2 k0 (by omega)]
                 rw [bi_t ⟨hc35, hc45⟩, Int.one_mul] at ih
                 exact ih _ trivial)
              | (rw [bi_f (fun z => by first | exact z.1 hc35 | exact z.2 hc45), Int.zero_mul, Int.add_zero] at ih
                 exact ih _ trivial)
  refine Wk.aload_n (k := 0) (q := 1) (by decide +kernel) rfl rfl rfl ?_
  refine Wk.aload_n (k := 0) (q := 2) (by decide +kernel) rfl rfl rfl ?_
  refine Wk.getI (z := 3) (q := 5) f_Swing_39 (by decide +kernel) O_1 (by decide) rfl rfl rfl ?_
  refine Wk.cSi (q := 8) l_Swing_107 m_Swing_inDanger (by decide +kernel) (fun _ h => h) (Nat.le_of_ble_eq_true rfl) (Nat.le_of_ble_eq_true rfl) rfl (c_Swing_inDanger (by omega) hC) rfl ?_
  refine Wk.istore_n (k := 1) (q := 9) (by decide +kernel) rfl (by decide) rfl (fun _ h => h) rfl ?_
  refine Wk.iconst (n := 0) (q := 10) (by decide +kernel) rfl ?_
  refine Wk.istore_n (k := 2) (q := 11) (by decide +kernel) rfl (by decide) rfl (fun _ h => h) rfl ?_
  refine Wk.iconst (n := 0) (q := 12) (by decide +kernel) rfl ?_
  refine Wk.istore_n (k := 3) (q := 13) (by decide +kernel) rfl (by decide) rfl (fun _ h => h) rfl ?_
  exact key
end SWI
