/-! THE CLASS'S SEARCH: all that wait; with ships moved -/
theorem loopS2 {σ τ : Type} (V : Int → σ → τ → Prop) (J : Int → σ → τ → Prop) (e k0 : Int) (s0 : σ) (t0 : τ) (h0 : k0 ≤ e) (hJ : J k0 s0 t0) (he : ∀ s t, J e s t → V e s t) (hs : ∀ k s t, k0 ≤ k → k < e → J k s t → (∀ s' t', J (k + 1) s' t' → V (k + 1) s' t') → V k s t) : V k0 s0 t0 :=
  loopS (σ := σ × τ) (fun k p => V k p.1 p.2) (fun k p => J k p.1 p.2) e k0 (s0, t0) h0 hJ (fun p hp => he p.1 p.2 hp) (fun k p h1 h2 hp ih => hs k p.1 p.2 h1 h2 hp (fun s' t' hj => ih (s', t') hj))
theorem loopS3 {σ τ υ : Type} (V : Int → σ → τ → υ → Prop) (J : Int → σ → τ → υ → Prop) (e k0 : Int) (s0 : σ) (t0 : τ) (u0 : υ) (h0 : k0 ≤ e) (hJ : J k0 s0 t0 u0) (he : ∀ s t u, J e s t u → V e s t u) (hs : ∀ k s t u, k0 ≤ k → k < e → J k s t u → (∀ s' t' u', J (k + 1) s' t' u' → V (k + 1) s' t' u') → V k s t u) : V k0 s0 t0 u0 :=
  loopS (σ := σ × τ × υ) (fun k p => V k p.1 p.2.1 p.2.2) (fun k p => J k p.1 p.2.1 p.2.2) e k0 (s0, t0, u0) h0 hJ (fun p hp => he p.1 p.2.1 p.2.2 hp) (fun k p h1 h2 hp ih => hs k p.1 p.2.1 p.2.2 h1 h2 hp (fun s' t' u' hj => ih (s', t', u') hj))
theorem LookOK.sl {I : IM} {L L2 : LM} {s : Int} (h : LookOK I L s) (hS : SLm L2 L) : LookOK I L2 s :=
  ⟨by rw [hS 125 s (by decide)]; exact h.1, fun f f0 f1 f2 f3 => by rw [hS 126 _ (by decide)]; exact h.2 f f0 f1 f2 f3⟩
/-- the same harbour -/
def Ag (I2 I : IM) : Prop := ∀ c, c ≤ 7 → I2 c = I c
theorem Ag.cw {I2 I : IM} (h : Ag I2 I) : CW I2 ↔ CW I := by
  unfold CW CI0 CI1 CI2 Slot1
  rw [h 1 (by decide), h 2 (by decide), h 3 (by decide), h 4 (by decide), h 5 (by decide), h 6 (by decide), h 7 (by decide)]
theorem Ag.slot {I2 I : IM} (h : Ag I2 I) (s : Int) : Slot1 I2 s ↔ Slot1 I s := by
  unfold Slot1
  rw [h 1 (by decide)]
theorem Ag.look {I2 I : IM} (h : Ag I2 I) {L : LM} {s : Int} : LookOK I2 L s ↔ LookOK I L s := by
  unfold LookOK Slot1 cGood cBad
  rw [h 1 (by decide), h 2 (by decide), h 3 (by decide), h 4 (by decide), h 5 (by decide)]
theorem Ag.left {I2 I : IM} (h : Ag I2 I) {s mv x y : Int} : cLeft I2 s mv x y ↔ cLeft I s mv x y := by
  unfold cLeft cGood
  rw [h 1 (by decide), h 2 (by decide), h 3 (by decide), h 4 (by decide), h 5 (by decide), h 6 (by decide), h 7 (by decide)]
/-- nothing but the search's own ints has changed -/
def FrS (I2 I : IM) : Prop := ∀ c, ¬ c = 122 → ¬ c = 123 → ¬ c = 124 → I2 c = I c
theorem FrS.ag {I2 I : IM} (h : FrS I2 I) : Ag I2 I := fun c hc => h c (by omega) (by omega) (by omega)
theorem FrS.trans {I I2 I3 : IM} (h : FrS I3 I2) (g : FrS I2 I) : FrS I3 I := fun c h1 h2 h3 => (h c h1 h2 h3).trans (g c h1 h2 h3)
theorem FrS.of_SI {I2 I : IM} (h : SI I2 I) : FrS I2 I := fun c _ _ h3 => funext fun b => h c b h3
theorem FrS.up {I : IM} {c : Nat} {z v : Int} (h : c = 122 ∨ c = 123 ∨ c = 124) : FrS (iup I c z v) I := fun a h1 h2 h3 => funext fun b => by
  simp only [iup]
  rw [if_neg (by omega)]
section SEE
variable {xs : RO} {d : Nat} {I : IM} {L : LM}

theorem c_Sear_settlesRow (hR : RowOK I L) : Wk xs x_Sear_settlesRow (d + 9) 0 0 0 [some (vr 122), some (vr 1), none] [] X2 I L (p2 fun v I' L' => ((v = some (vi 1) ∧ Lea (rG I) (rK I) (I 122 2).toNat 0 (I' 124)) ∨ (v = some (vi 0) ∧ ¬ Exr (rG I) (rK I) (I 122 2).toNat 0 (fun _ => 0))) ∧ SI I' I ∧ SLm L' L) := by
  obtain ⟨hC, hlen, hmv, hrow, hne⟩ := id hR
  have key : Wk xs x_Sear_settlesRow (d + 9) 0 0 2 [some (vr 122), some (vr 1), some (vi 0)] [] X2 I L (p2 fun v I' L' => ((v = some (vi 1) ∧ Lea (rG I) (rK I) (I 122 2).toNat 0 (I' 124)) ∨ (v = some (vi 0) ∧ ¬ Exr (rG I) (rK I) (I 122 2).toNat 0 (fun _ => 0))) ∧ SI I' I ∧ SLm L' L) := by
    refine loopS (σ := LM) (fun i L2 => Wk xs x_Sear_settlesRow (d + 9) 0 0 2 [some (vr 122), some (vr 1), some (vi i)] [] X2 I L2 (p2 fun v I' L' => ((v = some (vi 1) ∧ Lea (rG I) (rK I) (I 122 2).toNat 0 (I' 124)) ∨ (v = some (vi 0) ∧ ¬ Exr (rG I) (rK I) (I 122 2).toNat 0 (fun _ => 0))) ∧ SI I' I ∧ SLm L' L)) (fun i L2 => SLm L2 L ∧ ∀ m, 0 ≤ m → m < i → LB (L2 127 m) (FP I 0 (I 124) m)) (I 122 2) 0 L (by omega) ⟨fun _ _ _ => rfl, fun m m0 m1 => by omega⟩ ?_ ?_
    · intro L2 hJ
      obtain ⟨hJ1, hJ2⟩ := hJ
      refine Wk.iload_n (k := 2) (q := 3) (by decide +kernel) rfl rfl rfl ?_
      refine Wk.aload_n (k := 0) (q := 4) (by decide +kernel) rfl rfl rfl ?_
      refine Wk.getI (z := 2) (q := 7) f_Sear_50 (by decide +kernel) O_122 (by decide) rfl rfl rfl ?_
      refine Wk.icmp_ge (off := (43)) (t := 50) (q := 10) (by decide +kernel) (by decide) rfl (by first | omega | exact bi_rng _) (by first | omega | exact bi_rng _) (fun hc7 => ?_) (fun hc7 => ?_)
      · refine Wk.aload_n (k := 0) (q := 51) (by decide +kernel) rfl rfl rfl ?_
        refine Wk.iconst (n := 0) (q := 52) (by decide +kernel) rfl ?_
        refine Wk.cV (q := 55) l_Sear_73 m_Sear_settles (by decide +kernel) (fun _ h => h) O_122 rfl (Nat.le_of_ble_eq_true rfl) (Nat.le_of_ble_eq_true rfl) rfl (settles_all hR d (I 122 2).toNat (by omega) 0 I L2 (by omega) (by omega) (fun _ _ _ => rfl) hJ1 (fun i i0 i1 => by rw [show (0 : Int) * 3 + i = i by omega]; exact hJ2 i i0 i1)) rfl (fun v I' L' hP => ?_)
        obtain ⟨hv, q1, q2, q3, q4⟩ := hP
        obtain ⟨z, hz, hz2⟩ : ∃ z : Int, (z = 0 ∨ z = 1) ∧ v = some (vi z) := by
          rcases hv with ⟨rfl, -⟩ | ⟨rfl, -⟩
          · exact ⟨1, Or.inr rfl, rfl⟩
          · exact ⟨0, Or.inl rfl, rfl⟩
        subst hz2
        exact Wk.rzP (by decide +kernel) rfl (by first | omega | decide | exact bi_01 _) (⟨hv.imp id (fun q => ⟨q.1, fun w => q.2 ((Exr_pre (by omega) (fun j a0 a1 => by omega)).mp w)⟩), q1, q2⟩)
      · omega
    · intro i L2 i0 i1 hJ ih
      obtain ⟨hJ1, hJ2⟩ := hJ
      obtain ⟨r1, r2, r3⟩ := hrow i i0 i1
      refine Wk.iload_n (k := 2) (q := 3) (by decide +kernel) rfl rfl rfl ?_
      refine Wk.aload_n (k := 0) (q := 4) (by decide +kernel) rfl rfl rfl ?_
      refine Wk.getI (z := 2) (q := 7) f_Sear_50 (by decide +kernel) O_122 (by decide) rfl rfl rfl ?_
      refine Wk.icmp_ge (off := (43)) (t := 50) (q := 10) (by decide +kernel) (by decide) rfl (by first | omega | exact bi_rng _) (by first | omega | exact bi_rng _) (fun hc7 => ?_) (fun hc7 => ?_)
      · omega
      · refine Wk.aload_n (k := 0) (q := 11) (by decide +kernel) rfl rfl rfl ?_
        refine Wk.getR (r := 127) (q := 14) f_Sear_25 (by decide +kernel) O_122 (by decide) rfl rfl rfl ?_
        refine Wk.iload_n (k := 2) (q := 15) (by decide +kernel) rfl rfl rfl ?_
        refine Wk.aload_n (k := 0) (q := 16) (by decide +kernel) rfl rfl rfl ?_
        refine Wk.aload_n (k := 1) (q := 17) (by decide +kernel) rfl rfl rfl ?_
        refine Wk.aload_n (k := 0) (q := 18) (by decide +kernel) rfl rfl rfl ?_
        refine Wk.getR (r := 123) (q := 21) f_Sear_11 (by decide +kernel) O_122 (by decide) rfl rfl rfl ?_
        refine Wk.iload_n (k := 2) (q := 22) (by decide +kernel) rfl rfl rfl ?_
        refine Wk.iaload (q := 23) (by decide +kernel) A_123 (by first | omega | exact bi_rng _) (by first | omega | exact bi_rng _) rfl ?_
        refine Wk.aload_n (k := 0) (q := 24) (by decide +kernel) rfl rfl rfl ?_
        refine Wk.getI (z := 3) (q := 27) f_Sear_53 (by decide +kernel) O_122 (by decide) rfl rfl rfl ?_
        refine Wk.cV (q := 30) l_Sear_32 m_Sear_leftFor (by decide +kernel) (fun _ h => h) O_122 rfl (Nat.le_of_ble_eq_true rfl) (Nat.le_of_ble_eq_true rfl) rfl (c_Sear_leftFor r1 hC hmv (r2.sl hJ1) r3) rfl (fun v I' L' hP => ?_)
        obtain ⟨⟨u, rfl, hu⟩, rfl, rfl⟩ := hP
        have hu2 : LB u (FP I' 0 (I' 124) i) := hu.cong (fun x y _ _ _ _ => ⟨fun q => ⟨q, fun j j0 j1 => by omega⟩, fun q => q.1⟩)
        refine Wk.lastore (q := 31) (by decide +kernel) A_127 (by first | omega | exact bi_rng _) (by first | omega | exact bi_rng _) rfl ?_
        refine Wk.aload_n (k := 0) (q := 32) (by decide +kernel) rfl rfl rfl ?_
        refine Wk.getR (r := 127) (q := 35) f_Sear_25 (by decide +kernel) O_122 (by decide) rfl rfl rfl ?_
        refine Wk.iload_n (k := 2) (q := 36) (by decide +kernel) rfl rfl rfl ?_
        refine Wk.laload (q := 37) (by decide +kernel) A_127 (by first | omega | exact bi_rng _) (by first | omega | exact bi_rng _) rfl ?_
        rw [lup_eq]
        refine Wk.lconst (n := 0) (v := 0) (q := 38) (by decide +kernel) rfl rfl ?_
        refine Wk.lcmp (q := 39) (by decide +kernel) rfl ?_
        refine Wk.if_ne (off := (5)) (t := 44) (q := 42) (by decide +kernel) (by decide) rfl (by first | omega | (split <;> (try split) <;> omega)) (fun hc39 => ?_) (fun hc39 => ?_)
        · refine Wk.iinc (i := 2) (n := 1) (q := 47) (by decide +kernel) rfl (by decide) rfl (fun _ h => h) rfl ?_
          refine Wk.goto (off := (-45)) (q := 2) (by decide +kernel) (by decide) ?_
          refine ih _ ⟨fun c b hcb => ?_, ext1 (fun m m0 m1 => ?_) ?_⟩
          · rw [lup_ne (fun q => hcb q.1)]; exact hJ1 c b hcb
          · rw [lup_ne (by omega)]; exact hJ2 m m0 m1
          · rw [lup_eq]; exact hu2
        · refine Wk.iconst (n := 0) (q := 43) (by decide +kernel) rfl ?_
          exact Wk.rzP (by decide +kernel) rfl (by first | omega | decide | exact bi_01 _) (⟨Or.inr ⟨rfl, fun hx => by
        rw [cmp0] at hc39
        obtain ⟨t, t1, t2⟩ := Exr_each _ 0 _ (by omega) hx i i0 (by omega)
        exact (hu.zero_iff.mp hc39) (t % 8) (t / 8) (by omega) (by omega) (by have := t1.1; omega) (by have := t1.1; omega) t1.2⟩, fun _ _ _ => rfl, fun c b hcb => by rw [lup_ne (fun q => hcb q.1)]; exact hJ1 c b hcb⟩)
  refine Wk.iconst (n := 0) (q := 1) (by decide +kernel) rfl ?_
  refine Wk.istore_n (k := 2) (q := 2) (by decide +kernel) rfl (by decide) rfl (fun _ h => h) rfl ?_
  exact key
/-- all that wait: candidates, clashes -/
abbrev aG (I : IM) : Int → Int → Prop := fun k s => (0 ≤ s ∧ s < 64) ∧ cPlace I k (s % 8) (s / 8)
abbrev aK (I : IM) : Int → Int → Int → Int → Prop := fun i s j t => CL (I 1 3) (I 4 (5 + i)) (I 5 (5 + i)) (s % 8) (s / 8) (I 4 (5 + j)) (I 5 (5 + j)) (t % 8) (t / 8)
theorem c_Sear_settlesAll (hC : CW I) : Wk xs x_Sear_settlesAll (d + 10) 0 0 0 [some (vr 122), some (vr 1), none] [] X2 I L (p2 fun v I' _ => ((v = some (vi 1) ∧ Lea (aG I) (aK I) (I 1 5).toNat 0 (I' 124)) ∨ (v = some (vi 0) ∧ ¬ Exr (aG I) (aK I) (I 1 5).toNat 0 (fun _ => 0))) ∧ FrS I' I) := by
  obtain ⟨hW, hH, -, hF, hA, hB, -⟩ := id hC.1
  have key : ∀ I1 : IM, FrS I1 I → I1 122 2 = 0 → I1 122 3 = 0 → Wk xs x_Sear_settlesAll (d + 10) 0 0 12 [some (vr 122), some (vr 1), some (vi 0)] [] X2 I1 L (p2 fun v I' _ => ((v = some (vi 1) ∧ Lea (aG I) (aK I) (I 1 5).toNat 0 (I' 124)) ∨ (v = some (vi 0) ∧ ¬ Exr (aG I) (aK I) (I 1 5).toNat 0 (fun _ => 0))) ∧ FrS I' I) := by
    intro I1 hI1 e1 e2
    refine loopS2 (σ := IM) (τ := LM) (fun k I2 L2 => Wk xs x_Sear_settlesAll (d + 10) 0 0 12 [some (vr 122), some (vr 1), some (vi k)] [] X2 I2 L2 (p2 fun v I' _ => ((v = some (vi 1) ∧ Lea (aG I) (aK I) (I 1 5).toNat 0 (I' 124)) ∨ (v = some (vi 0) ∧ ¬ Exr (aG I) (aK I) (I 1 5).toNat 0 (fun _ => 0))) ∧ FrS I' I)) (fun k I2 L2 => FrS I2 I ∧ I2 122 2 = k ∧ I2 122 3 = 0 ∧ (∀ m, 0 ≤ m → m < k → I2 123 m = 5 + m) ∧ ∀ m, 0 ≤ m → m < k → LookOK I L2 (5 + m)) (I 1 5) 0 I1 L (by omega) ⟨hI1, e1, e2, fun m m0 m1 => by omega, fun m m0 m1 => by omega⟩ ?_ ?_
    · intro I2 L2 hJ
      obtain ⟨j1, j2, j3, j4, j5⟩ := hJ
      have e5 : I2 1 5 = I 1 5 := by rw [j1 1 (by decide) (by decide) (by decide)]
      have hag := j1.ag
      have hR : RowOK I2 L2 := by
        refine ⟨hag.cw.mpr hC, by omega, by omega, fun i i0 i1 => ?_, fun i j i0 i1 i2 => ?_⟩
        · rw [j4 i i0 (by omega)]
          refine ⟨(hag.slot _).mpr (Or.inr (by omega)), hag.look.mpr (j5 i i0 (by omega)), fun a a0 a1 _ => ?_⟩
          have : I2 1 4 = I 1 4 := by rw [j1 1 (by decide) (by decide) (by decide)]
          omega
        · rw [j4 i i0 (by omega), j4 j (by omega) (by omega)]
          omega
      have hG : ∀ i s, 0 ≤ i → i < I 1 5 → (rG I2 i s ↔ aG I i s) := fun i s i0 i1 => by
        unfold rG aG
        rw [j4 i i0 i1, j3, hag.left]
        exact ⟨fun q => ⟨q.1, q.2.1, fun a a0 a1 => q.2.2 a a0 a1 (bt_0 a)⟩, fun q => ⟨q.1, q.2.1, fun a a0 a1 _ => q.2.2 a a0 a1⟩⟩
      have hK : ∀ i s j t, 0 ≤ i → i < I 1 5 → 0 ≤ j → j < I 1 5 → (rK I2 i s j t ↔ aK I i s j t) := fun i s j t i0 i1 k0 k1 => by
        unfold rK aK
        rw [j4 i i0 i1, j4 j k0 k1, hag 1 (by decide), hag 4 (by decide), hag 5 (by decide)]
      refine Wk.iload_n (k := 2) (q := 13) (by decide +kernel) rfl rfl rfl ?_
      refine Wk.aload_n (k := 1) (q := 14) (by decide +kernel) rfl rfl rfl ?_
      refine Wk.getI (z := 5) (q := 17) f_Sear_36 (by decide +kernel) O_1 (by decide) rfl rfl rfl ?_
      refine Wk.icmp_ge (off := (47)) (t := 64) (q := 20) (by decide +kernel) (by decide) rfl (by first | omega | exact bi_rng _) (by first | omega | exact bi_rng _) (fun hc17 => ?_) (fun hc17 => ?_)
      · refine Wk.aload_n (k := 0) (q := 65) (by decide +kernel) rfl rfl rfl ?_
        refine Wk.aload_n (k := 1) (q := 66) (by decide +kernel) rfl rfl rfl ?_
        refine Wk.cV (q := 69) l_Sear_56 m_Sear_settlesRow (by decide +kernel) (fun _ h => h) O_122 rfl (Nat.le_of_ble_eq_true rfl) (Nat.le_of_ble_eq_true rfl) rfl (c_Sear_settlesRow hR) rfl (fun v I3 L3 hP => ?_)
        obtain ⟨hv, q1, q2⟩ := hP
        rw [j2] at hv
        obtain ⟨z, hz, hz2⟩ : ∃ z : Int, (z = 0 ∨ z = 1) ∧ v = some (vi z) := by
          rcases hv with ⟨rfl, -⟩ | ⟨rfl, -⟩
          · exact ⟨1, Or.inr rfl, rfl⟩
          · exact ⟨0, Or.inl rfl, rfl⟩
        subst hz2
        exact Wk.rzP (by decide +kernel) rfl (by first | omega | decide | exact bi_01 _) (⟨hv.imp (fun q => ⟨q.1, Lea_cong hG hK _ 0 _ _ (by omega) (by omega) (fun _ _ _ => rfl) q.2⟩) (fun q => ⟨q.1, fun w => q.2 ((Exr_cong hG hK _ 0 _ _ (by omega) (by omega) (fun _ _ _ => rfl)).mpr w)⟩), (FrS.of_SI q1).trans j1⟩)
      · omega
    · intro k I2 L2 k0 k1 hJ ih
      obtain ⟨j1, j2, j3, j4, j5⟩ := hJ
      have e5 : I2 1 5 = I 1 5 := by rw [j1 1 (by decide) (by decide) (by decide)]
      have hag := j1.ag
      refine Wk.iload_n (k := 2) (q := 13) (by decide +kernel) rfl rfl rfl ?_
      refine Wk.aload_n (k := 1) (q := 14) (by decide +kernel) rfl rfl rfl ?_
      refine Wk.getI (z := 5) (q := 17) f_Sear_36 (by decide +kernel) O_1 (by decide) rfl rfl rfl ?_
      refine Wk.icmp_ge (off := (47)) (t := 64) (q := 20) (by decide +kernel) (by decide) rfl (by first | omega | exact bi_rng _) (by first | omega | exact bi_rng _) (fun hc17 => ?_) (fun hc17 => ?_)
      · omega
      · refine Wk.aload_n (k := 0) (q := 21) (by decide +kernel) rfl rfl rfl ?_
        refine Wk.getI (z := 2) (q := 24) f_Sear_50 (by decide +kernel) O_122 (by decide) rfl rfl rfl ?_
        refine Wk.iconst (n := 3) (q := 25) (by decide +kernel) rfl ?_
        refine Wk.icmp_ge (off := (39)) (t := 64) (q := 28) (by decide +kernel) (by decide) rfl (by first | omega | exact bi_rng _) (by first | omega | exact bi_rng _) (fun hc25 => ?_) (fun hc25 => ?_)
        · omega
        · refine Wk.aload_n (k := 0) (q := 29) (by decide +kernel) rfl rfl rfl ?_
          refine Wk.aload_n (k := 1) (q := 30) (by decide +kernel) rfl rfl rfl ?_
          refine Wk.iconst (n := 5) (q := 31) (by decide +kernel) rfl ?_
          refine Wk.iload_n (k := 2) (q := 32) (by decide +kernel) rfl rfl rfl ?_
          refine Wk.iadd (q := 33) (by decide +kernel) rfl ?_
          refine Wk.cV (q := 36) l_Sear_28 m_Sear_look (by decide +kernel) (fun _ h => h) O_122 rfl (Nat.le_of_ble_eq_true rfl) (Nat.le_of_ble_eq_true rfl) rfl (c_Sear_look ((hag.slot _).mpr (Or.inr (by omega))) (hag.cw.mpr hC)) rfl (fun v I3 L3 hP => ?_)
          obtain ⟨rfl, rfl, hK, hLF⟩ := hP
          refine Wk.aload_n (k := 0) (q := 37) (by decide +kernel) rfl rfl rfl ?_
          refine Wk.getR (r := 123) (q := 40) f_Sear_11 (by decide +kernel) O_122 (by decide) rfl rfl rfl ?_
          refine Wk.aload_n (k := 0) (q := 41) (by decide +kernel) rfl rfl rfl ?_
          refine Wk.getI (z := 2) (q := 44) f_Sear_50 (by decide +kernel) O_122 (by decide) rfl rfl rfl ?_
          refine Wk.iconst (n := 5) (q := 45) (by decide +kernel) rfl ?_
          refine Wk.iload_n (k := 2) (q := 46) (by decide +kernel) rfl rfl rfl ?_
          refine Wk.iadd (q := 47) (by decide +kernel) rfl ?_
          refine Wk.iastore (q := 48) (by decide +kernel) A_123 (by first | omega | exact bi_rng _) (by first | omega | exact bi_rng _) rfl ?_
          refine Wk.aload_n (k := 0) (q := 49) (by decide +kernel) rfl rfl rfl ?_
          refine Wk.dup (q := 50) (by decide +kernel) rfl rfl ?_
          refine Wk.getI (z := 2) (q := 53) f_Sear_50 (by decide +kernel) O_122 (by decide) rfl rfl rfl ?_
          refine Wk.iconst (n := 1) (q := 54) (by decide +kernel) rfl ?_
          refine Wk.iadd (q := 55) (by decide +kernel) rfl ?_
          refine Wk.putI (z := 2) (q := 58) f_Sear_50 fw_Sear_2 (by decide +kernel) O_122 (by decide) rfl rfl ⟨rfl, rfl⟩ rfl ?_
          refine Wk.iinc (i := 2) (n := 1) (q := 61) (by decide +kernel) rfl (by decide) rfl (fun _ h => h) rfl ?_
          refine Wk.goto (off := (-49)) (q := 12) (by decide +kernel) (by decide) ?_
          refine ih _ _ ?_
          refine ⟨FrS.trans (FrS.up (Or.inl rfl)) (FrS.trans (FrS.up (Or.inr (Or.inl rfl))) j1), ?_, ?_, ext1 (fun m m0 m1 => ?_) ?_, ext1 (fun m m0 m1 => ?_) ?_⟩
          · simp only [iup]
            simp
            exact j2
          · simp [iup, j3]
          · simp only [iup]
            have : ¬ m = I3 122 2 := by omega
            simp [this]
            exact j4 m m0 m1
          · simp [iup, j2]
          · exact (j5 m m0 m1).kept hLF (by omega) (by omega)
          · exact hag.look.mp hK
  refine Wk.aload_n (k := 0) (q := 1) (by decide +kernel) rfl rfl rfl ?_
  refine Wk.iconst (n := 0) (q := 2) (by decide +kernel) rfl ?_
  refine Wk.putI (z := 2) (q := 5) f_Sear_50 fw_Sear_2 (by decide +kernel) O_122 (by decide) rfl rfl ⟨rfl, rfl⟩ rfl ?_
  refine Wk.aload_n (k := 0) (q := 6) (by decide +kernel) rfl rfl rfl ?_
  refine Wk.iconst (n := 0) (q := 7) (by decide +kernel) rfl ?_
  refine Wk.putI (z := 3) (q := 10) f_Sear_53 fw_Sear_3 (by decide +kernel) O_122 (by decide) rfl rfl ⟨rfl, rfl⟩ rfl ?_
  refine Wk.iconst (n := 0) (q := 11) (by decide +kernel) rfl ?_
  refine Wk.istore_n (k := 2) (q := 12) (by decide +kernel) rfl (by decide) rfl (fun _ h => h) rfl ?_
  exact key _ (FrS.trans (FrS.up (Or.inl rfl)) (FrS.up (Or.inl rfl))) (by simp [iup]) (by simp [iup])
end SEE
