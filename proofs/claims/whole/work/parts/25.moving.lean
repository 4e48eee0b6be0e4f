/-! MOVES: the class's search with ships moved -/
noncomputable def nbit (set : Int) (a : Int) : Int := ct (fun b => bt set b = true) a.toNat
theorem nbit_step {set a : Int} (h : 0 ≤ a) : nbit set (a + 1) = nbit set a + bi (bt set a = true) := ct_step _ h
theorem nbit_0 (set : Int) : nbit set 0 = 0 := rfl
theorem nbit_mono {set a b : Int} (h0 : 0 ≤ a) (h : a ≤ b) : nbit set a ≤ nbit set b := by
  have key : ∀ n : Nat, nbit set a ≤ nbit set (a + n) := by
    intro n
    induction n with
    | zero => simp
    | succ n ih =>
      have := nbit_step (set := set) (a := a + n) (by omega)
      have hb := bi_range (bt set (a + n) = true)
      rw [show a + ((n + 1 : Nat) : Int) = a + n + 1 by omega, this]
      omega
  have := key (b - a).toNat
  rw [show a + ((b - a).toNat : Int) = b by omega] at this
  exact this
theorem bt_hi {set a n : Int} (h0 : 0 ≤ set) (h1 : set < (2 ^ n.toNat : Nat)) (hn : 0 ≤ n) (ha : n ≤ a) : bt set a = false := by
  unfold bt
  apply Nat.testBit_lt_two_pow
  have h2 : 2 ^ n.toNat ≤ 2 ^ a.toNat := Nat.pow_le_pow_right (by decide) (by omega)
  omega
theorem nbit_hi {set n b : Int} (h0 : 0 ≤ set) (h1 : set < (2 ^ n.toNat : Nat)) (hn : 0 ≤ n) (hb : n ≤ b) : nbit set b = nbit set n := by
  have key : ∀ m : Nat, nbit set (n + m) = nbit set n := by
    intro m
    induction m with
    | zero => simp
    | succ m ih =>
      rw [show n + ((m + 1 : Nat) : Int) = n + m + 1 by omega, nbit_step (by omega), ih, bi_f (by rw [bt_hi h0 h1 hn (by omega)]; decide)]
      omega
  have := key (b - n).toNat
  rw [show n + ((b - n).toNat : Int) = b by omega] at this
  exact this
/-- the ships of a row: the one that waits, then those of the set, rising -/
def MR (na k set c : Int) (R : Int → Int) : Prop := R 0 = 5 + k ∧ (∀ i, 1 ≤ i → i ≤ c → (0 ≤ R i ∧ R i < na) ∧ bt set (R i) = true) ∧ (∀ i j, 1 ≤ i → i < j → j ≤ c → R i < R j) ∧ ∀ a, 0 ≤ a → a < na → bt set a = true → ∃ i, 1 ≤ i ∧ i ≤ c ∧ R i = a
abbrev mG (I : IM) (set : Int) (R : Int → Int) : Int → Int → Prop := fun i s => (0 ≤ s ∧ s < 64) ∧ cLeft I (R i) set (s % 8) (s / 8)
abbrev mK (I : IM) (R : Int → Int) : Int → Int → Int → Int → Prop := fun i s j t => CL (I 1 3) (I 4 (R i)) (I 5 (R i)) (s % 8) (s / 8) (I 4 (R j)) (I 5 (R j)) (t % 8) (t / 8)
/-- with this set moved there is a row -/
def ME (I : IM) (k set : Int) : Prop := ∃ R, MR (I 1 4) k set (nbit set 5) R ∧ Exr (mG I set R) (mK I R) (nbit set 5 + 1).toNat 0 (fun _ => 0)
theorem MR_uniq {na k set c : Int} {R R2 : Int → Int} (h : MR na k set c R) (g : MR na k set c R2) : ∀ i, 0 ≤ i → i ≤ c → R i = R2 i := by
  obtain ⟨h0, h1, h2, h3⟩ := h
  obtain ⟨g0, g1, g2, g3⟩ := g
  have key : ∀ (n : Nat) (i : Int), i = n → 1 ≤ i → i ≤ c → R i = R2 i := by
    intro n
    induction n using Nat.strongRecOn with
    | ind n ih =>
      intro i hi i1 i2
      obtain ⟨j, j1, j2, j3⟩ := g3 (R i) (h1 i i1 i2).1.1 (h1 i i1 i2).1.2 (h1 i i1 i2).2
      obtain ⟨m, m1, m2, m3⟩ := h3 (R2 i) (g1 i i1 i2).1.1 (g1 i i1 i2).1.2 (g1 i i1 i2).2
      rcases Int.lt_trichotomy j i with hj | hj | hj
      · have e := ih j.toNat (by omega) j (by omega) j1 j2
        have := h2 j i j1 hj i2
        omega
      · rw [← j3, hj]
      · have q1 := g2 i j i1 hj j2
        rcases Int.lt_trichotomy m i with hm | hm | hm
        · have e := ih m.toNat (by omega) m (by omega) m1 m2
          have := g2 m i m1 hm i2
          omega
        · rw [hm] at m3
          exact m3
        · have q2 := h2 i m i1 hm m2
          omega
  intro i i0 i1
  by_cases hi : i = 0
  · rw [hi, h0, g0]
  · exact key i.toNat i (by omega) (by omega) i1
section SEF
variable {xs : RO} {d : Nat} {I : IM} {L : LM}

theorem c_Sear_settlesMoving {k set : Int} (k0 : 0 ≤ k) (k1 : k < I 1 5) (hC : CW I) (s0 : 0 ≤ set) (s1 : set < (2 ^ (I 1 4).toNat : Nat)) (s2 : nbit set 5 ≤ 2) (hLk : LookOK I L (5 + k)) (hLa : ∀ a, 0 ≤ a → a < I 1 4 → LookOK I L a) : Wk xs x_Sear_settlesMoving (d + 10) 0 0 0 [some (vr 122), some (vr 1), some (vi (5 + k)), some (vi set), none] [] X2 I L (p2 fun v I' L' => ((v = some (vi 1) ∧ ∃ R, MR (I 1 4) k set (nbit set 5) R ∧ Lea (mG I set R) (mK I R) (nbit set 5 + 1).toNat 0 (I' 124) ∧ I' 122 3 = set ∧ I' 122 2 = nbit set 5 + 1 ∧ ∀ i, 0 ≤ i → i ≤ nbit set 5 → I' 123 i = R i) ∨ (v = some (vi 0) ∧ ¬ ME I k set)) ∧ FrS I' I ∧ SLm L' L) := by
  obtain ⟨hW, hH, -, hF, hA, hB, -⟩ := id hC.1
  have hp5 : 2 ^ (I 1 4).toNat ≤ 2 ^ 5 := Nat.pow_le_pow_right (by decide) (by omega)
  have hna := nbit_hi s0 s1 hA.1 hA.2
  have fin : ∀ (I2 : IM) (a : Int), FrS I2 I → I2 122 2 = 1 + nbit set 5 → I2 122 3 = set → MR (I 1 4) k set (nbit set 5) (I2 123) → Wk xs x_Sear_settlesMoving (d + 10) 0 0 73 [some (vr 122), some (vr 1), some (vi (5 + k)), some (vi set), some (vi a)] [] X2 I2 L (p2 fun v I' L' => ((v = some (vi 1) ∧ ∃ R, MR (I 1 4) k set (nbit set 5) R ∧ Lea (mG I set R) (mK I R) (nbit set 5 + 1).toNat 0 (I' 124) ∧ I' 122 3 = set ∧ I' 122 2 = nbit set 5 + 1 ∧ ∀ i, 0 ≤ i → i ≤ nbit set 5 → I' 123 i = R i) ∨ (v = some (vi 0) ∧ ¬ ME I k set)) ∧ FrS I' I ∧ SLm L' L) := by
    intro I2 a j1 j2 j3 j4
    have hag := j1.ag
    have e4 : I2 1 4 = I 1 4 := by rw [hag 1 (by decide)]
    have hb0 := nbit_mono (set := set) (a := 0) (b := 5) (by omega) (by omega)
    rw [nbit_0] at hb0
    have hR : RowOK I2 L := by
      refine ⟨hag.cw.mpr hC, by omega, by omega, fun i i0 i1 => ?_, fun i j i0 i1 i2 => ?_⟩
      · by_cases hi : i = 0
        · rw [hi, j4.1]
          exact ⟨(hag.slot _).mpr (Or.inr (by omega)), hag.look.mpr hLk, fun a a0 a1 _ => by omega⟩
        · obtain ⟨q1, q2⟩ := j4.2.1 i (by omega) (by omega)
          refine ⟨(hag.slot _).mpr (Or.inl q1), hag.look.mpr (hLa _ q1.1 q1.2), fun a a0 a1 hb hx => ?_⟩
          rw [j3, hx, q2] at hb
          cases hb
      · by_cases hi : i = 0
        · rw [hi, j4.1]
          have := (j4.2.1 j (by omega) (by omega)).1
          omega
        · have := j4.2.2.1 i j (by omega) i1 (by omega)
          omega
    have hG : ∀ i s, 0 ≤ i → i < nbit set 5 + 1 → (rG I2 i s ↔ mG I set (I2 123) i s) := fun i s i0 i1 => by
      unfold rG mG
      rw [j3, hag.left]
    have hK : ∀ i s j t, 0 ≤ i → i < nbit set 5 + 1 → 0 ≤ j → j < nbit set 5 + 1 → (rK I2 i s j t ↔ mK I (I2 123) i s j t) := fun i s j t _ _ _ _ => by
      unfold rK mK
      rw [hag 1 (by decide), hag 4 (by decide), hag 5 (by decide)]
    refine Wk.aload_n (k := 0) (q := 74) (by decide +kernel) rfl rfl rfl ?_
    refine Wk.aload_n (k := 1) (q := 75) (by decide +kernel) rfl rfl rfl ?_
    refine Wk.cV (q := 78) l_Sear_56 m_Sear_settlesRow (by decide +kernel) (fun _ h => h) O_122 rfl (Nat.le_of_ble_eq_true rfl) (Nat.le_of_ble_eq_true rfl) rfl (c_Sear_settlesRow hR) rfl (fun v I3 L3 hP => ?_)
    obtain ⟨hv, q1, q2⟩ := hP
    rw [j2, show 1 + nbit set 5 = nbit set 5 + 1 by omega] at hv
    have hfin : ((v = some (vi 1) ∧ ∃ R, MR (I 1 4) k set (nbit set 5) R ∧ Lea (mG I set R) (mK I R) (nbit set 5 + 1).toNat 0 (I3 124) ∧ I3 122 3 = set ∧ I3 122 2 = nbit set 5 + 1 ∧ ∀ i, 0 ≤ i → i ≤ nbit set 5 → I3 123 i = R i) ∨ (v = some (vi 0) ∧ ¬ ME I k set)) := by
      rcases hv with ⟨rfl, hv⟩ | ⟨rfl, hv⟩
      · exact Or.inl ⟨rfl, I2 123, j4, Lea_cong hG hK _ 0 _ _ (by omega) (by omega) (fun _ _ _ => rfl) hv, by rw [q1 122 3 (by decide)]; exact j3, by rw [q1 122 2 (by decide)]; omega, fun i _ _ => q1 123 i (by decide)⟩
      · refine Or.inr ⟨rfl, fun ⟨R, hR1, hR2⟩ => hv ((Exr_cong hG hK _ 0 _ _ (by omega) (by omega) (fun _ _ _ => rfl)).mpr ?_)⟩
        have hu := MR_uniq hR1 j4
        refine (Exr_cong (N := nbit set 5 + 1) (fun i s i0 i1 => ?_) (fun i s j t i0 i1 m0 m1 => ?_) _ 0 _ _ (by omega) (by omega) (fun _ _ _ => rfl)).mp hR2
        · unfold mG
          rw [hu i i0 (by omega)]
        · unfold mK
          rw [hu i i0 (by omega), hu j m0 (by omega)]
    obtain ⟨z, hz, hz2⟩ : ∃ z : Int, (z = 0 ∨ z = 1) ∧ v = some (vi z) := by
      rcases hv with ⟨rfl, -⟩ | ⟨rfl, -⟩
      · exact ⟨1, Or.inr rfl, rfl⟩
      · exact ⟨0, Or.inl rfl, rfl⟩
    subst hz2
    exact Wk.rzP (by decide +kernel) rfl (by first | omega | decide | exact bi_01 _) (⟨hfin, (FrS.of_SI q1).trans j1, q2⟩)
  have key : ∀ I1 : IM, FrS I1 I → I1 122 2 = 1 → I1 122 3 = set → I1 123 0 = 5 + k → Wk xs x_Sear_settlesMoving (d + 10) 0 0 20 [some (vr 122), some (vr 1), some (vi (5 + k)), some (vi set), some (vi 0)] [] X2 I1 L (p2 fun v I' L' => ((v = some (vi 1) ∧ ∃ R, MR (I 1 4) k set (nbit set 5) R ∧ Lea (mG I set R) (mK I R) (nbit set 5 + 1).toNat 0 (I' 124) ∧ I' 122 3 = set ∧ I' 122 2 = nbit set 5 + 1 ∧ ∀ i, 0 ≤ i → i ≤ nbit set 5 → I' 123 i = R i) ∨ (v = some (vi 0) ∧ ¬ ME I k set)) ∧ FrS I' I ∧ SLm L' L) := by
    intro I1 hI1 e1 e2 e3
    refine loopS (σ := IM) (fun a I2 => Wk xs x_Sear_settlesMoving (d + 10) 0 0 20 [some (vr 122), some (vr 1), some (vi (5 + k)), some (vi set), some (vi a)] [] X2 I2 L (p2 fun v I' L' => ((v = some (vi 1) ∧ ∃ R, MR (I 1 4) k set (nbit set 5) R ∧ Lea (mG I set R) (mK I R) (nbit set 5 + 1).toNat 0 (I' 124) ∧ I' 122 3 = set ∧ I' 122 2 = nbit set 5 + 1 ∧ ∀ i, 0 ≤ i → i ≤ nbit set 5 → I' 123 i = R i) ∨ (v = some (vi 0) ∧ ¬ ME I k set)) ∧ FrS I' I ∧ SLm L' L)) (fun a I2 => FrS I2 I ∧ I2 122 2 = 1 + nbit set a ∧ I2 122 3 = set ∧ MR a k set (nbit set a) (I2 123)) (I 1 4) 0 I1 (by omega) ⟨hI1, by rw [nbit_0]; omega, e2, e3, fun i i0 i1 => by rw [nbit_0] at i1; omega, fun i j i0 i1 i2 => by rw [nbit_0] at i2; omega, fun a a0 a1 => by omega⟩ ?_ ?_
    · intro I2 hJ
      obtain ⟨j1, j2, j3, j4⟩ := hJ
      have e4 : I2 1 4 = I 1 4 := by rw [j1.ag 1 (by decide)]
      rw [← hna] at j2 j4
      refine Wk.iload (i := 4) (q := 22) (by decide +kernel) rfl rfl ?_
      refine Wk.aload_n (k := 1) (q := 23) (by decide +kernel) rfl rfl rfl ?_
      refine Wk.getI (z := 4) (q := 26) f_Sear_60 (by decide +kernel) O_1 (by decide) rfl rfl rfl ?_
      refine Wk.icmp_ge (off := (47)) (t := 73) (q := 29) (by decide +kernel) (by decide) rfl (by first | omega | exact bi_rng _) (by first | omega | exact bi_rng _) (fun hc26 => ?_) (fun hc26 => ?_)
      · exact fin I2 _ j1 j2 j3 j4
      · omega
    · intro a I2 a0 a1 hJ ih
      obtain ⟨j1, j2, j3, j4⟩ := hJ
      have hag := j1.ag
      have e4 : I2 1 4 = I 1 4 := by rw [hag 1 (by decide)]
      have hm1 := nbit_mono (set := set) (a := a) (b := 5) a0 (by omega)
      have hm2 := nbit_mono (set := set) (a := a + 1) (b := 5) (by omega) (by omega)
      have hm0 := nbit_mono (set := set) (a := 0) (b := a) (by omega) (by omega)
      rw [nbit_0] at hm0
      have hst := nbit_step (set := set) a0
      refine Wk.iload (i := 4) (q := 22) (by decide +kernel) rfl rfl ?_
      refine Wk.aload_n (k := 1) (q := 23) (by decide +kernel) rfl rfl rfl ?_
      refine Wk.getI (z := 4) (q := 26) f_Sear_60 (by decide +kernel) O_1 (by decide) rfl rfl rfl ?_
      refine Wk.icmp_ge (off := (47)) (t := 73) (q := 29) (by decide +kernel) (by decide) rfl (by first | omega | exact bi_rng _) (by first | omega | exact bi_rng _) (fun hc26 => ?_) (fun hc26 => ?_)
      · first
          | (exfalso; omega)
          | (have hn2 : nbit set a = nbit set 5 := by omega
             rw [hn2] at j2 j4
             refine fin I2 _ j1 j2 j3 ⟨j4.1, fun i i0 i1 => by have := j4.2.1 i i0 i1; exact ⟨by omega, this.2⟩, j4.2.2.1, fun b b0 b1 hb => ?_⟩
             by_cases hba : b < a
             · exact j4.2.2.2 b b0 hba hb
             · exfalso
               have q1 := nbit_mono (set := set) (a := a) (b := b) a0 (by omega)
               have q2 := nbit_step (set := set) b0
               have q3 := nbit_mono (set := set) (a := b + 1) (b := 5) (by omega) (by omega)
               rw [bi_t hb] at q2
               omega)
      · refine Wk.aload_n (k := 0) (q := 30) (by decide +kernel) rfl rfl rfl ?_
        refine Wk.getI (z := 2) (q := 33) f_Sear_50 (by decide +kernel) O_122 (by decide) rfl rfl rfl ?_
        refine Wk.iconst (n := 3) (q := 34) (by decide +kernel) rfl ?_
        refine Wk.icmp_ge (off := (39)) (t := 73) (q := 37) (by decide +kernel) (by decide) rfl (by first | omega | exact bi_rng _) (by first | omega | exact bi_rng _) (fun hc34 => ?_) (fun hc34 => ?_)
        · first
            | (exfalso; omega)
            | (have hn2 : nbit set a = nbit set 5 := by omega
               rw [hn2] at j2 j4
               refine fin I2 _ j1 j2 j3 ⟨j4.1, fun i i0 i1 => by have := j4.2.1 i i0 i1; exact ⟨by omega, this.2⟩, j4.2.2.1, fun b b0 b1 hb => ?_⟩
               by_cases hba : b < a
               · exact j4.2.2.2 b b0 hba hb
               · exfalso
                 have q1 := nbit_mono (set := set) (a := a) (b := b) a0 (by omega)
                 have q2 := nbit_step (set := set) b0
                 have q3 := nbit_mono (set := set) (a := b + 1) (b := 5) (by omega) (by omega)
                 rw [bi_t hb] at q2
                 omega)
        · refine Wk.iload_n (k := 3) (q := 38) (by decide +kernel) rfl rfl rfl ?_
          refine Wk.iload (i := 4) (q := 40) (by decide +kernel) rfl rfl ?_
          refine Wk.ishr (q := 41) (by decide +kernel) rfl ?_
          refine Wk.iconst (n := 1) (q := 42) (by decide +kernel) rfl ?_
          refine Wk.iand (q := 43) (by decide +kernel) rfl ?_
          rw [bit_int s0 (by omega) a0 (by omega)]
          refine Wk.if_eq (off := (24)) (t := 67) (q := 46) (by decide +kernel) (by decide) rfl (by first | omega | exact bi_rng _) (fun hc43 => ?_) (fun hc43 => ?_)
          · refine Wk.iinc (i := 4) (n := 1) (q := 70) (by decide +kernel) rfl (by decide) rfl (fun _ h => h) rfl ?_
            refine Wk.goto (off := (-50)) (q := 20) (by decide +kernel) (by decide) ?_
            first
              | (rw [bi_eq0] at hc43
                 rw [bi_f hc43, Int.add_zero] at hst
                 refine ih _ ⟨j1, by omega, j3, ?_⟩
                 rw [hst]
                 exact ⟨j4.1, fun i i0 i1 => by have := j4.2.1 i i0 i1; exact ⟨by omega, this.2⟩, j4.2.2.1, fun b b0 b1 hb => by
                   by_cases hba : b = a
                   · rw [hba] at hb; exact absurd hb hc43
                   · exact j4.2.2.2 b b0 (by omega) hb⟩)
              | (have hbt : bt set a = true := Classical.not_not.mp (fun z => hc43 (bi_f z))
                 rw [bi_t hbt] at hst
                 refine ih _ ⟨FrS.trans (FrS.up (Or.inl rfl)) (FrS.trans (FrS.up (Or.inr (Or.inl rfl))) j1), ?_, ?_, ?_⟩
                 · simp [iup]; omega
                 · simp [iup, j3]
                 · rw [hst]
                   have hg : ∀ i, ¬ i = I2 122 2 → (iup (iup I2 123 (I2 122 2) a) 122 2 (iup I2 123 (I2 122 2) a 122 2 + 1)) 123 i = I2 123 i := fun i hi => by simp [iup, hi]
                   have hg2 : (iup (iup I2 123 (I2 122 2) a) 122 2 (iup I2 123 (I2 122 2) a 122 2 + 1)) 123 (nbit set a + 1) = a := by
                     have : nbit set a + 1 = I2 122 2 := by omega
                     rw [this]
                     simp [iup]
                   refine ⟨by rw [hg 0 (by omega)]; exact j4.1, fun i i0 i1 => ?_, fun i j i0 i1 i2 => ?_, fun b b0 b1 hb => ?_⟩
                   · by_cases hi : i = nbit set a + 1
                     · rw [hi, hg2]; exact ⟨by omega, hbt⟩
                     · rw [hg i (by omega)]
                       have := j4.2.1 i i0 (by omega)
                       exact ⟨by omega, this.2⟩
                   · by_cases hj : j = nbit set a + 1
                     · rw [hj, hg2, hg i (by omega)]
                       have := (j4.2.1 i i0 (by omega)).1
                       omega
                     · rw [hg i (by omega), hg j (by omega)]
                       exact j4.2.2.1 i j i0 i1 (by omega)
                   · by_cases hba : b = a
                     · exact ⟨nbit set a + 1, by omega, by omega, by rw [hg2, hba]⟩
                     · obtain ⟨i, i0, i1, i2⟩ := j4.2.2.2 b b0 (by omega) hb
                       exact ⟨i, i0, by omega, by rw [hg i (by omega)]; exact i2⟩)
          · refine Wk.aload_n (k := 0) (q := 47) (by decide +kernel) rfl rfl rfl ?_
            refine Wk.getR (r := 123) (q := 50) f_Sear_11 (by decide +kernel) O_122 (by decide) rfl rfl rfl ?_
            refine Wk.aload_n (k := 0) (q := 51) (by decide +kernel) rfl rfl rfl ?_
            refine Wk.getI (z := 2) (q := 54) f_Sear_50 (by decide +kernel) O_122 (by decide) rfl rfl rfl ?_
            refine Wk.iload (i := 4) (q := 56) (by decide +kernel) rfl rfl ?_
            refine Wk.iastore (q := 57) (by decide +kernel) A_123 (by first | omega | exact bi_rng _) (by first | omega | exact bi_rng _) rfl ?_
            refine Wk.aload_n (k := 0) (q := 58) (by decide +kernel) rfl rfl rfl ?_
            refine Wk.dup (q := 59) (by decide +kernel) rfl rfl ?_
            refine Wk.getI (z := 2) (q := 62) f_Sear_50 (by decide +kernel) O_122 (by decide) rfl rfl rfl ?_
            refine Wk.iconst (n := 1) (q := 63) (by decide +kernel) rfl ?_
            refine Wk.iadd (q := 64) (by decide +kernel) rfl ?_
            refine Wk.putI (z := 2) (q := 67) f_Sear_50 fw_Sear_2 (by decide +kernel) O_122 (by decide) rfl rfl ⟨rfl, rfl⟩ rfl ?_
            refine Wk.iinc (i := 4) (n := 1) (q := 70) (by decide +kernel) rfl (by decide) rfl (fun _ h => h) rfl ?_
            refine Wk.goto (off := (-50)) (q := 20) (by decide +kernel) (by decide) ?_
            first
              | (rw [bi_eq0] at hc43
                 rw [bi_f hc43, Int.add_zero] at hst
                 refine ih _ ⟨j1, by omega, j3, ?_⟩
                 rw [hst]
                 exact ⟨j4.1, fun i i0 i1 => by have := j4.2.1 i i0 i1; exact ⟨by omega, this.2⟩, j4.2.2.1, fun b b0 b1 hb => by
                   by_cases hba : b = a
                   · rw [hba] at hb; exact absurd hb hc43
                   · exact j4.2.2.2 b b0 (by omega) hb⟩)
              | (have hbt : bt set a = true := Classical.not_not.mp (fun z => hc43 (bi_f z))
                 rw [bi_t hbt] at hst
                 refine ih _ ⟨FrS.trans (FrS.up (Or.inl rfl)) (FrS.trans (FrS.up (Or.inr (Or.inl rfl))) j1), ?_, ?_, ?_⟩
                 · simp [iup]; omega
                 · simp [iup, j3]
                 · rw [hst]
                   have hg : ∀ i, ¬ i = I2 122 2 → (iup (iup I2 123 (I2 122 2) a) 122 2 (iup I2 123 (I2 122 2) a 122 2 + 1)) 123 i = I2 123 i := fun i hi => by simp [iup, hi]
                   have hg2 : (iup (iup I2 123 (I2 122 2) a) 122 2 (iup I2 123 (I2 122 2) a 122 2 + 1)) 123 (nbit set a + 1) = a := by
                     have : nbit set a + 1 = I2 122 2 := by omega
                     rw [this]
                     simp [iup]
                   refine ⟨by rw [hg 0 (by omega)]; exact j4.1, fun i i0 i1 => ?_, fun i j i0 i1 i2 => ?_, fun b b0 b1 hb => ?_⟩
                   · by_cases hi : i = nbit set a + 1
                     · rw [hi, hg2]; exact ⟨by omega, hbt⟩
                     · rw [hg i (by omega)]
                       have := j4.2.1 i i0 (by omega)
                       exact ⟨by omega, this.2⟩
                   · by_cases hj : j = nbit set a + 1
                     · rw [hj, hg2, hg i (by omega)]
                       have := (j4.2.1 i i0 (by omega)).1
                       omega
                     · rw [hg i (by omega), hg j (by omega)]
                       exact j4.2.2.1 i j i0 i1 (by omega)
                   · by_cases hba : b = a
                     · exact ⟨nbit set a + 1, by omega, by omega, by rw [hg2, hba]⟩
                     · obtain ⟨i, i0, i1, i2⟩ := j4.2.2.2 b b0 (by omega) hb
                       exact ⟨i, i0, by omega, by rw [hg i (by omega)]; exact i2⟩)
  refine Wk.aload_n (k := 0) (q := 1) (by decide +kernel) rfl rfl rfl ?_
  refine Wk.getR (r := 123) (q := 4) f_Sear_11 (by decide +kernel) O_122 (by decide) rfl rfl rfl ?_
  refine Wk.iconst (n := 0) (q := 5) (by decide +kernel) rfl ?_
  refine Wk.iload_n (k := 2) (q := 6) (by decide +kernel) rfl rfl rfl ?_
  refine Wk.iastore (q := 7) (by decide +kernel) A_123 (by first | omega | exact bi_rng _) (by first | omega | exact bi_rng _) rfl ?_
  refine Wk.aload_n (k := 0) (q := 8) (by decide +kernel) rfl rfl rfl ?_
  refine Wk.iconst (n := 1) (q := 9) (by decide +kernel) rfl ?_
  refine Wk.putI (z := 2) (q := 12) f_Sear_50 fw_Sear_2 (by decide +kernel) O_122 (by decide) rfl rfl ⟨rfl, rfl⟩ rfl ?_
  refine Wk.aload_n (k := 0) (q := 13) (by decide +kernel) rfl rfl rfl ?_
  refine Wk.iload_n (k := 3) (q := 14) (by decide +kernel) rfl rfl rfl ?_
  refine Wk.putI (z := 3) (q := 17) f_Sear_53 fw_Sear_3 (by decide +kernel) O_122 (by decide) rfl rfl ⟨rfl, rfl⟩ rfl ?_
  refine Wk.iconst (n := 0) (q := 18) (by decide +kernel) rfl ?_
  refine Wk.istore (i := 4) (q := 20) (by decide +kernel) (by decide) rfl (fun _ h => h) rfl ?_
  exact key _ (FrS.trans (FrS.up (Or.inl rfl)) (FrS.trans (FrS.up (Or.inl rfl)) (FrS.up (Or.inr (Or.inl rfl))))) (by simp [iup]) (by simp [iup]) (by simp [iup])
end SEF
