/-! MOVES, the whole search -/
def MvFound (I : IM) (k : Int) (I2 : IM) (set : Int) (R : Int → Int) : Prop := (0 ≤ set ∧ set < (2 ^ (I 1 4).toNat : Nat)) ∧ nbit set 5 ≤ 2 ∧ MR (I 1 4) k set (nbit set 5) R ∧ Lea (mG I set R) (mK I R) (nbit set 5 + 1).toNat 0 (I2 124) ∧ I2 122 3 = set ∧ I2 122 2 = nbit set 5 + 1 ∧ (∀ i, 0 ≤ i → i ≤ nbit set 5 → I2 123 i = R i) ∧ ∀ set2, 0 ≤ set2 → set2 < (2 ^ (I 1 4).toNat : Nat) → (nbit set2 5 < nbit set 5 ∨ (nbit set2 5 = nbit set 5 ∧ set2 < set)) → ¬ ME I k set2
def MvNone (I : IM) (k : Int) : Prop := ∀ set, 0 ≤ set → set < (2 ^ (I 1 4).toNat : Nat) → nbit set 5 ≤ 2 → ¬ ME I k set
section SEG
variable {xs : RO} {d : Nat} {I : IM} {L : LM}

theorem c_Sear_settlesByMoves {k : Int} (k0 : 0 ≤ k) (k1 : k < I 1 5) (hC : CW I) : Wk xs x_Sear_settlesByMoves (d + 11) 0 0 0 [some (vr 122), some (vr 1), some (vi k), none, none] [] X2 I L (p2 fun v I' _ => ((v = some (vi 1) ∧ ∃ set R, MvFound I k I' set R) ∨ (v = some (vi 0) ∧ MvNone I k)) ∧ FrS I' I) := by
  obtain ⟨hW, hH, -, hF, hA, hB, -⟩ := id hC.1
  have hp5 : 2 ^ (I 1 4).toNat ≤ 2 ^ 5 := Nat.pow_le_pow_right (by decide) (by omega)
  have hp0 := Nat.two_pow_pos (I 1 4).toNat
  have keyC : ∀ L1 : LM, LookOK I L1 (5 + k) → (∀ a, 0 ≤ a → a < I 1 4 → LookOK I L1 a) → Wk xs x_Sear_settlesByMoves (d + 11) 0 0 32 [some (vr 122), some (vr 1), some (vi k), some (vi 0), none] [] X2 I L1 (p2 fun v I' _ => ((v = some (vi 1) ∧ ∃ set R, MvFound I k I' set R) ∨ (v = some (vi 0) ∧ MvNone I k)) ∧ FrS I' I) := by
    intro L1 hLk hLa
    refine loopS3 (σ := IM) (τ := LM) (υ := Option AV) (fun c I2 L2 o4 => Wk xs x_Sear_settlesByMoves (d + 11) 0 0 32 [some (vr 122), some (vr 1), some (vi k), some (vi c), o4] [] X2 I2 L2 (p2 fun v I' _ => ((v = some (vi 1) ∧ ∃ set R, MvFound I k I' set R) ∨ (v = some (vi 0) ∧ MvNone I k)) ∧ FrS I' I)) (fun c I2 L2 _ => FrS I2 I ∧ SLm L2 L1 ∧ ∀ set, 0 ≤ set → set < (2 ^ (I 1 4).toNat : Nat) → nbit set 5 < c → ¬ ME I k set) 3 0 I L1 none (by omega) ⟨fun _ _ _ _ => rfl, fun _ _ _ => rfl, fun set _ _ q => by
      have := nbit_mono (set := set) (a := 0) (b := 5) (by omega) (by omega)
      rw [nbit_0] at this
      omega⟩ ?_ ?_
    · intro I2 L2 o4 hJ
      obtain ⟨j1, j2, j3⟩ := hJ
      refine Wk.iload_n (k := 3) (q := 33) (by decide +kernel) rfl rfl rfl ?_
      refine Wk.iconst (n := 2) (q := 34) (by decide +kernel) rfl ?_
      refine Wk.icmp_gt (off := (53)) (t := 87) (q := 37) (by decide +kernel) (by decide) rfl (by first | omega | exact bi_rng _) (by first | omega | exact bi_rng _) (fun hc34 => ?_) (fun hc34 => ?_)
      · refine Wk.iconst (n := 0) (q := 88) (by decide +kernel) rfl ?_
        exact Wk.rzP (by decide +kernel) rfl (by first | omega | decide | exact bi_01 _) (⟨Or.inr ⟨rfl, fun set q1 q2 q3 => j3 set q1 q2 (by omega)⟩, j1⟩)
      · omega
    · intro c I2 L2 o4 c0 c1 hJ ih
      obtain ⟨j1, j2, j3⟩ := hJ
      have keyS : Wk xs x_Sear_settlesByMoves (d + 11) 0 0 40 [some (vr 122), some (vr 1), some (vi k), some (vi c), some (vi 0)] [] X2 I2 L2 (p2 fun v I' _ => ((v = some (vi 1) ∧ ∃ set R, MvFound I k I' set R) ∨ (v = some (vi 0) ∧ MvNone I k)) ∧ FrS I' I) := by
        refine loopS2 (σ := IM) (τ := LM) (fun s I2 L2 => Wk xs x_Sear_settlesByMoves (d + 11) 0 0 40 [some (vr 122), some (vr 1), some (vi k), some (vi c), some (vi s)] [] X2 I2 L2 (p2 fun v I' _ => ((v = some (vi 1) ∧ ∃ set R, MvFound I k I' set R) ∨ (v = some (vi 0) ∧ MvNone I k)) ∧ FrS I' I)) (fun s I2 L2 => FrS I2 I ∧ SLm L2 L1 ∧ ∀ set, 0 ≤ set → set < (2 ^ (I 1 4).toNat : Nat) → (nbit set 5 < c ∨ (nbit set 5 = c ∧ set < s)) → ¬ ME I k set) ((2 ^ (I 1 4).toNat : Nat) : Int) 0 I2 L2 (by omega) ⟨j1, j2, fun set q1 q2 q3 => j3 set q1 q2 (by omega)⟩ ?_ ?_
        · intro I3 L3 hJ3
          obtain ⟨i1, i2, i3⟩ := hJ3
          have e4 : I3 1 4 = I 1 4 := by rw [i1.ag 1 (by decide)]
          have hsh := shl_one (k := I3 1 4) (by omega) (by omega)
          rw [e4] at hsh
          refine Wk.iload (i := 4) (q := 42) (by decide +kernel) rfl rfl ?_
          refine Wk.iconst (n := 1) (q := 43) (by decide +kernel) rfl ?_
          refine Wk.aload_n (k := 1) (q := 44) (by decide +kernel) rfl rfl rfl ?_
          refine Wk.getI (z := 4) (q := 47) f_Sear_60 (by decide +kernel) O_1 (by decide) rfl rfl rfl ?_
          refine Wk.ishl (q := 48) (by decide +kernel) rfl ?_
          rw [e4, hsh]
          refine Wk.icmp_ge (off := (33)) (t := 81) (q := 51) (by decide +kernel) (by decide) rfl (by first | omega | exact bi_rng _) (by first | omega | exact bi_rng _) (fun hc48 => ?_) (fun hc48 => ?_)
          · refine Wk.iinc (i := 3) (n := 1) (q := 84) (by decide +kernel) rfl (by decide) rfl (fun _ h => h) rfl ?_
            refine Wk.goto (off := (-52)) (q := 32) (by decide +kernel) (by decide) ?_
            exact ih _ _ _ ⟨i1, i2, fun set q1 q2 q3 => i3 set q1 q2 (by omega)⟩
          · omega
        · intro s I3 L3 s0 s1 hJ3 ih2
          obtain ⟨i1, i2, i3⟩ := hJ3
          have hag := i1.ag
          have e4 : I3 1 4 = I 1 4 := by rw [hag 1 (by decide)]
          have hsh := shl_one (k := I3 1 4) (by omega) (by omega)
          rw [e4] at hsh
          have hnb := ct_range (fun b => bt s b = true) 5
          rw [show ct (fun b => bt s b = true) 5 = nbit s 5 from rfl] at hnb
          refine Wk.iload (i := 4) (q := 42) (by decide +kernel) rfl rfl ?_
          refine Wk.iconst (n := 1) (q := 43) (by decide +kernel) rfl ?_
          refine Wk.aload_n (k := 1) (q := 44) (by decide +kernel) rfl rfl rfl ?_
          refine Wk.getI (z := 4) (q := 47) f_Sear_60 (by decide +kernel) O_1 (by decide) rfl rfl rfl ?_
          refine Wk.ishl (q := 48) (by decide +kernel) rfl ?_
          rw [e4, hsh]
          refine Wk.icmp_ge (off := (33)) (t := 81) (q := 51) (by decide +kernel) (by decide) rfl (by first | omega | exact bi_rng _) (by first | omega | exact bi_rng _) (fun hc48 => ?_) (fun hc48 => ?_)
          · omega
          · refine Wk.iload (i := 4) (q := 53) (by decide +kernel) rfl rfl ?_
            refine Wk.cSi (q := 56) l_Sear_63 m_Integer_bitCount (by decide +kernel) (fun _ h => h) (Nat.le_of_ble_eq_true rfl) (Nat.le_of_ble_eq_true rfl) rfl (c_Integer_bitCount s0 (by omega)) rfl ?_
            rw [show ct (fun b => bt s b = true) 5 = nbit s 5 from rfl]
            refine Wk.iload_n (k := 3) (q := 57) (by decide +kernel) rfl rfl rfl ?_
            refine Wk.icmp_ne (off := (18)) (t := 75) (q := 60) (by decide +kernel) (by decide) rfl (by first | omega | exact bi_rng _) (by first | omega | exact bi_rng _) (fun hc57 => ?_) (fun hc57 => ?_)
            · refine Wk.iinc (i := 4) (n := 1) (q := 78) (by decide +kernel) rfl (by decide) rfl (fun _ h => h) rfl ?_
              refine Wk.goto (off := (-38)) (q := 40) (by decide +kernel) (by decide) ?_
              first
                | (refine ih2 _ _ ⟨i1, i2, fun set p1 p2 p3 => ?_⟩
                   by_cases hs : set = s
                   · subst hs
                     exact i3 _ p1 p2 (by omega)
                   · exact i3 set p1 p2 (by omega))
                | (refine ih2 _ _ ⟨q1.trans i1, fun a b hab => (q2 a b hab).trans (i2 a b hab), fun set p1 p2 p3 => ?_⟩
                   by_cases hs : set = s
                   · rcases hv with ⟨hv, -⟩ | ⟨-, hv⟩
                     · injection hv with hv
                       have : z = 1 := by injection hv
                       omega
                     · rw [hs]; exact hv
                   · exact i3 set p1 p2 (by omega))
            · refine Wk.aload_n (k := 0) (q := 61) (by decide +kernel) rfl rfl rfl ?_
              refine Wk.aload_n (k := 1) (q := 62) (by decide +kernel) rfl rfl rfl ?_
              refine Wk.iconst (n := 5) (q := 63) (by decide +kernel) rfl ?_
              refine Wk.iload_n (k := 2) (q := 64) (by decide +kernel) rfl rfl rfl ?_
              refine Wk.iadd (q := 65) (by decide +kernel) rfl ?_
              refine Wk.iload (i := 4) (q := 67) (by decide +kernel) rfl rfl ?_
              refine Wk.cV (q := 70) l_Sear_69 m_Sear_settlesMoving (by decide +kernel) (fun _ h => h) O_122 rfl (Nat.le_of_ble_eq_true rfl) (Nat.le_of_ble_eq_true rfl) rfl (c_Sear_settlesMoving k0 (by rw [hag 1 (by decide)]; exact k1) (hag.cw.mpr hC) s0 (by rw [e4]; exact s1) (by omega) (hag.look.mpr (hLk.sl i2)) (fun a a0 a1 => hag.look.mpr ((hLa a a0 (by omega)).sl i2))) rfl (fun v I4 L4 hP => ?_)
              obtain ⟨hv, q1, q2⟩ := hP
              have hME : ME I3 k s ↔ ME I k s := by
                unfold ME mG mK cLeft cGood
                rw [hag 1 (by decide), hag 2 (by decide), hag 3 (by decide), hag 4 (by decide), hag 5 (by decide), hag 6 (by decide), hag 7 (by decide)]
              have hmG : ∀ R, mG I3 s R = mG I s R := fun R => by
                unfold mG cLeft cGood
                rw [hag 1 (by decide), hag 2 (by decide), hag 3 (by decide), hag 4 (by decide), hag 5 (by decide), hag 6 (by decide), hag 7 (by decide)]
              have hmK : ∀ R, mK I3 R = mK I R := fun R => by
                unfold mK
                rw [hag 1 (by decide), hag 4 (by decide), hag 5 (by decide)]
              rw [hME, e4] at hv
              obtain ⟨z, hz, hz2⟩ : ∃ z : Int, (z = 0 ∨ z = 1) ∧ v = some (vi z) := by
                rcases hv with ⟨rfl, -⟩ | ⟨rfl, -⟩
                · exact ⟨1, Or.inr rfl, rfl⟩
                · exact ⟨0, Or.inl rfl, rfl⟩
              subst hz2
              refine Wk.if_eq (off := (5)) (t := 75) (q := 73) (by decide +kernel) (by decide) rfl (by first | omega | exact bi_rng _) (fun hc70 => ?_) (fun hc70 => ?_)
              · refine Wk.iinc (i := 4) (n := 1) (q := 78) (by decide +kernel) rfl (by decide) rfl (fun _ h => h) rfl ?_
                refine Wk.goto (off := (-38)) (q := 40) (by decide +kernel) (by decide) ?_
                first
                  | (refine ih2 _ _ ⟨i1, i2, fun set p1 p2 p3 => ?_⟩
                     by_cases hs : set = s
                     · subst hs
                       exact i3 _ p1 p2 (by omega)
                     · exact i3 set p1 p2 (by omega))
                  | (refine ih2 _ _ ⟨q1.trans i1, fun a b hab => (q2 a b hab).trans (i2 a b hab), fun set p1 p2 p3 => ?_⟩
                     by_cases hs : set = s
                     · rcases hv with ⟨hv, -⟩ | ⟨-, hv⟩
                       · injection hv with hv
                         have : z = 1 := by injection hv
                         omega
                       · rw [hs]; exact hv
                     · exact i3 set p1 p2 (by omega))
              · refine Wk.iconst (n := 1) (q := 74) (by decide +kernel) rfl ?_
                exact Wk.rzP (by decide +kernel) rfl (by first | omega | decide | exact bi_01 _) (⟨Or.inl ⟨rfl, by
            rcases hv with ⟨-, R, r1, r2, r3, r4, r5⟩ | ⟨hv, -⟩
            · rw [hmG, hmK] at r2
              exact ⟨s, R, ⟨s0, s1⟩, by omega, r1, r2, r3, r4, r5, fun set2 p1 p2 p3 => i3 set2 p1 p2 (by omega)⟩
            · injection hv with hv
              have : z = 0 := by injection hv
              omega⟩, q1.trans i1⟩)
      refine Wk.iload_n (k := 3) (q := 33) (by decide +kernel) rfl rfl rfl ?_
      refine Wk.iconst (n := 2) (q := 34) (by decide +kernel) rfl ?_
      refine Wk.icmp_gt (off := (53)) (t := 87) (q := 37) (by decide +kernel) (by decide) rfl (by first | omega | exact bi_rng _) (by first | omega | exact bi_rng _) (fun hc34 => ?_) (fun hc34 => ?_)
      · omega
      · refine Wk.iconst (n := 0) (q := 38) (by decide +kernel) rfl ?_
        refine Wk.istore (i := 4) (q := 40) (by decide +kernel) (by decide) rfl (fun _ h => h) rfl ?_
        exact keyS
  have keyL : ∀ L1 : LM, LookOK I L1 (5 + k) → Wk xs x_Sear_settlesByMoves (d + 11) 0 0 10 [some (vr 122), some (vr 1), some (vi k), some (vi 0), none] [] X2 I L1 (p2 fun v I' _ => ((v = some (vi 1) ∧ ∃ set R, MvFound I k I' set R) ∨ (v = some (vi 0) ∧ MvNone I k)) ∧ FrS I' I) := by
    intro L1 hLk
    refine loopS (σ := LM) (fun a L2 => Wk xs x_Sear_settlesByMoves (d + 11) 0 0 10 [some (vr 122), some (vr 1), some (vi k), some (vi a), none] [] X2 I L2 (p2 fun v I' _ => ((v = some (vi 1) ∧ ∃ set R, MvFound I k I' set R) ∨ (v = some (vi 0) ∧ MvNone I k)) ∧ FrS I' I)) (fun a L2 => LookOK I L2 (5 + k) ∧ ∀ b, 0 ≤ b → b < a → LookOK I L2 b) (I 1 4) 0 L1 (by omega) ⟨hLk, fun b b0 b1 => by omega⟩ ?_ ?_
    · intro L2 hJ
      refine Wk.iload_n (k := 3) (q := 11) (by decide +kernel) rfl rfl rfl ?_
      refine Wk.aload_n (k := 1) (q := 12) (by decide +kernel) rfl rfl rfl ?_
      refine Wk.getI (z := 4) (q := 15) f_Sear_60 (by decide +kernel) O_1 (by decide) rfl rfl rfl ?_
      refine Wk.icmp_ge (off := (15)) (t := 30) (q := 18) (by decide +kernel) (by decide) rfl (by first | omega | exact bi_rng _) (by first | omega | exact bi_rng _) (fun hc15 => ?_) (fun hc15 => ?_)
      · refine Wk.iconst (n := 0) (q := 31) (by decide +kernel) rfl ?_
        refine Wk.istore_n (k := 3) (q := 32) (by decide +kernel) rfl (by decide) rfl (fun _ h => h) rfl ?_
        exact keyC L2 hJ.1 hJ.2
      · omega
    · intro a L2 a0 a1 hJ ih
      refine Wk.iload_n (k := 3) (q := 11) (by decide +kernel) rfl rfl rfl ?_
      refine Wk.aload_n (k := 1) (q := 12) (by decide +kernel) rfl rfl rfl ?_
      refine Wk.getI (z := 4) (q := 15) f_Sear_60 (by decide +kernel) O_1 (by decide) rfl rfl rfl ?_
      refine Wk.icmp_ge (off := (15)) (t := 30) (q := 18) (by decide +kernel) (by decide) rfl (by first | omega | exact bi_rng _) (by first | omega | exact bi_rng _) (fun hc15 => ?_) (fun hc15 => ?_)
      · omega
      · refine Wk.aload_n (k := 0) (q := 19) (by decide +kernel) rfl rfl rfl ?_
        refine Wk.aload_n (k := 1) (q := 20) (by decide +kernel) rfl rfl rfl ?_
        refine Wk.iload_n (k := 3) (q := 21) (by decide +kernel) rfl rfl rfl ?_
        refine Wk.cV (q := 24) l_Sear_28 m_Sear_look (by decide +kernel) (fun _ h => h) O_122 rfl (Nat.le_of_ble_eq_true rfl) (Nat.le_of_ble_eq_true rfl) rfl (c_Sear_look (Or.inl ⟨a0, a1⟩) hC) rfl (fun v I3 L3 hP => ?_)
        obtain ⟨rfl, rfl, hK, hLF⟩ := hP
        refine Wk.iinc (i := 3) (n := 1) (q := 27) (by decide +kernel) rfl (by decide) rfl (fun _ h => h) rfl ?_
        refine Wk.goto (off := (-17)) (q := 10) (by decide +kernel) (by decide) ?_
        exact ih _ ⟨hJ.1.kept hLF (by omega) (by omega), ext1 (fun b b0 b1 => (hJ.2 b b0 b1).kept hLF (by omega) (by omega)) hK⟩
  refine Wk.aload_n (k := 0) (q := 1) (by decide +kernel) rfl rfl rfl ?_
  refine Wk.aload_n (k := 1) (q := 2) (by decide +kernel) rfl rfl rfl ?_
  refine Wk.iconst (n := 5) (q := 3) (by decide +kernel) rfl ?_
  refine Wk.iload_n (k := 2) (q := 4) (by decide +kernel) rfl rfl rfl ?_
  refine Wk.iadd (q := 5) (by decide +kernel) rfl ?_
  refine Wk.cV (q := 8) l_Sear_28 m_Sear_look (by decide +kernel) (fun _ h => h) O_122 rfl (Nat.le_of_ble_eq_true rfl) (Nat.le_of_ble_eq_true rfl) rfl (c_Sear_look (Or.inr (by omega)) hC) rfl (fun v I3 L3 hP => ?_)
  obtain ⟨rfl, rfl, hK, hLF⟩ := hP
  refine Wk.iconst (n := 0) (q := 9) (by decide +kernel) rfl ?_
  refine Wk.istore_n (k := 3) (q := 10) (by decide +kernel) rfl (by decide) rfl (fun _ h => h) rfl ?_
  exact keyL L3 hK
end SEG
