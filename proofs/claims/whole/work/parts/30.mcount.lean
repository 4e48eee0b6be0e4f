/-! THE REFERENCE: counts and firsts; pairs that clash -/
/-- the first number of which something is so; -1, if there is none -/
def Fst (P : Int → Prop) (n z : Int) : Prop := (z = -1 ∧ ∀ k, 0 ≤ k → k < n → ¬ P k) ∨ ((0 ≤ z ∧ z < n) ∧ P z ∧ ∀ k, 0 ≤ k → k < z → ¬ P k)
theorem Fst.uniq {P : Int → Prop} {n z u : Int} (h : Fst P n z) (g : Fst P n u) : z = u := by
  rcases h with ⟨h1, h2⟩ | ⟨h1, h2, h3⟩ <;> rcases g with ⟨g1, g2⟩ | ⟨g1, g2, g3⟩
  · omega
  · exact absurd g2 (h2 u g1.1 g1.2)
  · exact absurd h2 (g2 z h1.1 h1.2)
  · rcases Int.lt_trichotomy z u with e | e | e
    · exact absurd h2 (g3 z h1.1 e)
    · exact e
    · exact absurd g2 (h3 u g1.1 e)
theorem Fst.cong {P Q : Int → Prop} {n z : Int} (h : Fst P n z) (e : ∀ k, 0 ≤ k → k < n → (P k ↔ Q k)) : Fst Q n z := by
  rcases h with ⟨h1, h2⟩ | ⟨h1, h2, h3⟩
  · exact Or.inl ⟨h1, fun k k0 k1 q => h2 k k0 k1 ((e k k0 k1).mpr q)⟩
  · exact Or.inr ⟨h1, (e z h1.1 h1.2).mp h2, fun k k0 k1 q => h3 k k0 k1 ((e k k0 (by omega)).mpr q)⟩
section MOD
variable {xs : RO} {d : Nat} {I : IM} {L : LM}

theorem c_Mod_ones {set : Int} (h0 : 0 ≤ set) (h1 : set < 32) : Wk xs x_Mod_ones (d + 1) 0 0 0 [some (vi set), none, none] [] X2 I L (pI (ct (fun b => bt set b = true) (5 : Int).toNat) I L) := by
  have key : Wk xs x_Mod_ones (d + 1) 0 0 4 [some (vi set), some (vi (ct (fun b => bt set b = true) (0 : Int).toNat)), some (vi 0)] [] X2 I L (pI (ct (fun b => bt set b = true) (5 : Int).toNat) I L) := by
    refine loopI (fun k => Wk xs x_Mod_ones (d + 1) 0 0 4 [some (vi set), some (vi (ct (fun b => bt set b = true) k.toNat)), some (vi k)] [] X2 I L (pI (ct (fun b => bt set b = true) (5 : Int).toNat) I L)) (5 : Int) 0 (by omega) ?_ ?_
    · refine Wk.iload_n (k := 2) (q := 5) (by decide +kernel) rfl rfl rfl ?_
      refine Wk.iconst (n := 5) (q := 6) (by decide +kernel) rfl ?_
      refine Wk.icmp_ge (off := (25)) (t := 31) (q := 9) (by decide +kernel) (by decide) rfl (by first | omega | exact bi_rng _) (by first | omega | exact bi_rng _) (fun hc6 => ?_) (fun hc6 => ?_)
      · refine Wk.iload_n (k := 1) (q := 32) (by decide +kernel) rfl rfl rfl ?_
        exact Wk.rI (by decide +kernel) rfl (rfl)
      · omega
    · intro k k0 k1 ih
      rw [ct_step _ k0] at ih
      refine Wk.iload_n (k := 2) (q := 5) (by decide +kernel) rfl rfl rfl ?_
      refine Wk.iconst (n := 5) (q := 6) (by decide +kernel) rfl ?_
      refine Wk.icmp_ge (off := (25)) (t := 31) (q := 9) (by decide +kernel) (by decide) rfl (by first | omega | exact bi_rng _) (by first | omega | exact bi_rng _) (fun hc6 => ?_) (fun hc6 => ?_)
      · omega
      · refine Wk.iload_n (k := 1) (q := 10) (by decide +kernel) rfl rfl rfl ?_
        refine Wk.iload_n (k := 0) (q := 11) (by decide +kernel) rfl rfl rfl ?_
        refine Wk.iload_n (k := 2) (q := 12) (by decide +kernel) rfl rfl rfl ?_
        refine Wk.cSi (q := 15) l_Mod_58 m_Mod_has (by decide +kernel) (fun _ h => h) (Nat.le_of_ble_eq_true rfl) (Nat.le_of_ble_eq_true rfl) rfl (c_Mod_has (by omega) (by omega) (by omega) (by omega)) rfl ?_
        refine Wk.ifB_eq (off := (7)) (t := 22) (q := 18) (by decide +kernel) (by decide) rfl (fun hc15 => ?_) (fun hc15 => ?_)
        · refine Wk.iconst (n := 0) (q := 23) (by decide +kernel) rfl ?_
          refine Wk.iadd (q := 24) (by decide +kernel) rfl ?_
          refine Wk.istore_n (k := 1) (q := 25) (by decide +kernel) rfl (by decide) rfl (fun _ h => h) rfl ?_
          refine Wk.iinc (i := 2) (n := 1) (q := 28) (by decide +kernel) rfl (by decide) rfl (fun _ h => h) rfl ?_
          refine Wk.goto (off := (-24)) (q := 4) (by decide +kernel) (by decide) ?_
          first
            | (rw [bi_t (hc15)] at ih
               exact ih)
            | (rw [bi_f (hc15)] at ih
               exact ih)
        · refine Wk.iconst (n := 1) (q := 19) (by decide +kernel) rfl ?_
          refine Wk.goto (off := (4)) (q := 23) (by decide +kernel) (by decide) ?_
          refine Wk.iadd (q := 24) (by decide +kernel) rfl ?_
          refine Wk.istore_n (k := 1) (q := 25) (by decide +kernel) rfl (by decide) rfl (fun _ h => h) rfl ?_
          refine Wk.iinc (i := 2) (n := 1) (q := 28) (by decide +kernel) rfl (by decide) rfl (fun _ h => h) rfl ?_
          refine Wk.goto (off := (-24)) (q := 4) (by decide +kernel) (by decide) ?_
          first
            | (rw [bi_t (hc15)] at ih
               exact ih)
            | (rw [bi_f (hc15)] at ih
               exact ih)
  refine Wk.iconst (n := 0) (q := 1) (by decide +kernel) rfl ?_
  refine Wk.istore_n (k := 1) (q := 2) (by decide +kernel) rfl (by decide) rfl (fun _ h => h) rfl ?_
  refine Wk.iconst (n := 0) (q := 3) (by decide +kernel) rfl ?_
  refine Wk.istore_n (k := 2) (q := 4) (by decide +kernel) rfl (by decide) rfl (fun _ h => h) rfl ?_
  exact key
theorem c_Mod_clashPairs (hM : MW I) : Wk xs x_Mod_clashPairs (d + 4) 0 0 0 [some (vr 148), none, none] [] X2 I L (pI (sm (fun a => ct (fun b => bt (so (fun b => ¬ a = b ∧ mCa I (I 149 3) a b) (I 149 4).toNat) b = true) 5) (I 149 4).toNat / 2) I L) := by
  obtain ⟨hI, hS, hQ⟩ := id hM
  obtain ⟨hW, hH, hT, hF, hA, hK, hD⟩ := id hI
  have h49 := WH49 (W := I 149 0) (H := I 149 1) (by omega) (by omega)
  have hr := sm_range (f := (fun a => ct (fun b => bt (so (fun b => ¬ a = b ∧ mCa I (I 149 3) a b) (I 149 4).toNat) b = true) 5)) (B := 5) (fun k => ct_range _ 5) (I 149 4).toNat
  have key : Wk xs x_Mod_clashPairs (d + 4) 0 0 4 [some (vr 148), some (vi (sm (fun a => ct (fun b => bt (so (fun b => ¬ a = b ∧ mCa I (I 149 3) a b) (I 149 4).toNat) b = true) 5) (0 : Int).toNat)), some (vi 0)] [] X2 I L (pI (sm (fun a => ct (fun b => bt (so (fun b => ¬ a = b ∧ mCa I (I 149 3) a b) (I 149 4).toNat) b = true) 5) (I 149 4).toNat / 2) I L) := by
    refine loopI (fun k => Wk xs x_Mod_clashPairs (d + 4) 0 0 4 [some (vr 148), some (vi (sm (fun a => ct (fun b => bt (so (fun b => ¬ a = b ∧ mCa I (I 149 3) a b) (I 149 4).toNat) b = true) 5) k.toNat)), some (vi k)] [] X2 I L (pI (sm (fun a => ct (fun b => bt (so (fun b => ¬ a = b ∧ mCa I (I 149 3) a b) (I 149 4).toNat) b = true) 5) (I 149 4).toNat / 2) I L)) (I 149 4) 0 (by omega) ?_ ?_
    · refine Wk.iload_n (k := 2) (q := 5) (by decide +kernel) rfl rfl rfl ?_
      refine Wk.aload_n (k := 0) (q := 6) (by decide +kernel) rfl rfl rfl ?_
      refine Wk.getR (r := 149) (q := 9) f_Mod_7 (by decide +kernel) O_148 (by decide) rfl rfl rfl ?_
      refine Wk.iconst (n := 4) (q := 10) (by decide +kernel) rfl ?_
      refine Wk.iaload (q := 11) (by decide +kernel) A_149 (by first | omega | exact bi_rng _) (by first | omega | exact bi_rng _) rfl ?_
      refine Wk.icmp_ge (off := (20)) (t := 31) (q := 14) (by decide +kernel) (by decide) rfl (by first | omega | exact bi_rng _) (by first | omega | exact bi_rng _) (fun hc11 => ?_) (fun hc11 => ?_)
      · refine Wk.iload_n (k := 1) (q := 32) (by decide +kernel) rfl rfl rfl ?_
        refine Wk.iconst (n := 2) (q := 33) (by decide +kernel) rfl ?_
        refine Wk.idiv (q := 34) (by decide +kernel) (by first | omega | exact bi_rng _) (by first | omega | exact bi_rng _) rfl ?_
        exact Wk.rI (by decide +kernel) rfl (rfl)
      · omega
    · intro k k0 k1 ih
      rw [sm_step _ k0] at ih
      refine Wk.iload_n (k := 2) (q := 5) (by decide +kernel) rfl rfl rfl ?_
      refine Wk.aload_n (k := 0) (q := 6) (by decide +kernel) rfl rfl rfl ?_
      refine Wk.getR (r := 149) (q := 9) f_Mod_7 (by decide +kernel) O_148 (by decide) rfl rfl rfl ?_
      refine Wk.iconst (n := 4) (q := 10) (by decide +kernel) rfl ?_
      refine Wk.iaload (q := 11) (by decide +kernel) A_149 (by first | omega | exact bi_rng _) (by first | omega | exact bi_rng _) rfl ?_
      refine Wk.icmp_ge (off := (20)) (t := 31) (q := 14) (by decide +kernel) (by decide) rfl (by first | omega | exact bi_rng _) (by first | omega | exact bi_rng _) (fun hc11 => ?_) (fun hc11 => ?_)
      · omega
      · refine Wk.iload_n (k := 1) (q := 15) (by decide +kernel) rfl rfl rfl ?_
        refine Wk.aload_n (k := 0) (q := 16) (by decide +kernel) rfl rfl rfl ?_
        refine Wk.iload_n (k := 2) (q := 17) (by decide +kernel) rfl rfl rfl ?_
        refine Wk.cVi (q := 20) l_Mod_90 m_Mod_clashes (by decide +kernel) (fun _ h => h) O_148 rfl (Nat.le_of_ble_eq_true rfl) (Nat.le_of_ble_eq_true rfl) rfl (c_Mod_clashes k0 k1 hM) rfl ?_
        refine Wk.cSi (q := 23) l_Mod_115 m_Mod_ones (by decide +kernel) (fun _ h => h) (Nat.le_of_ble_eq_true rfl) (Nat.le_of_ble_eq_true rfl) rfl (c_Mod_ones (so_r5 _ (by omega)).1 (so_r5 _ (by omega)).2) rfl ?_
        refine Wk.iadd (q := 24) (by decide +kernel) rfl ?_
        refine Wk.istore_n (k := 1) (q := 25) (by decide +kernel) rfl (by decide) rfl (fun _ h => h) rfl ?_
        refine Wk.iinc (i := 2) (n := 1) (q := 28) (by decide +kernel) rfl (by decide) rfl (fun _ h => h) rfl ?_
        refine Wk.goto (off := (-24)) (q := 4) (by decide +kernel) (by decide) ?_
        exact ih
  refine Wk.iconst (n := 0) (q := 1) (by decide +kernel) rfl ?_
  refine Wk.istore_n (k := 1) (q := 2) (by decide +kernel) rfl (by decide) rfl (fun _ h => h) rfl ?_
  refine Wk.iconst (n := 0) (q := 3) (by decide +kernel) rfl ?_
  refine Wk.istore_n (k := 2) (q := 4) (by decide +kernel) rfl (by decide) rfl (fun _ h => h) rfl ?_
  exact key
theorem c_Swing_pairsThatClash (hC : CW I) : Wk xs x_Swing_pairsThatClash (d + 4) 0 0 0 [some (vr 1), none, none] [] X2 I L (pI (sm (fun a => ct (fun b => bt (so (fun b => ¬ b = a ∧ cCL I (I 1 3) a b) (I 1 4).toNat) b = true) 5) (I 1 4).toNat / 2) I L) := by
  have hA : 0 ≤ I 1 4 ∧ I 1 4 ≤ 5 := hC.1.2.2.2.2.1
  have hF : 1 ≤ I 1 3 ∧ I 1 3 ≤ 255 := hC.1.2.2.2.1
  have hr := sm_range (f := (fun a => ct (fun b => bt (so (fun b => ¬ b = a ∧ cCL I (I 1 3) a b) (I 1 4).toNat) b = true) 5)) (B := 5) (fun k => ct_range _ 5) (I 1 4).toNat
  have key : Wk xs x_Swing_pairsThatClash (d + 4) 0 0 4 [some (vr 1), some (vi (sm (fun a => ct (fun b => bt (so (fun b => ¬ b = a ∧ cCL I (I 1 3) a b) (I 1 4).toNat) b = true) 5) (0 : Int).toNat)), some (vi 0)] [] X2 I L (pI (sm (fun a => ct (fun b => bt (so (fun b => ¬ b = a ∧ cCL I (I 1 3) a b) (I 1 4).toNat) b = true) 5) (I 1 4).toNat / 2) I L) := by
    refine loopI (fun k => Wk xs x_Swing_pairsThatClash (d + 4) 0 0 4 [some (vr 1), some (vi (sm (fun a => ct (fun b => bt (so (fun b => ¬ b = a ∧ cCL I (I 1 3) a b) (I 1 4).toNat) b = true) 5) k.toNat)), some (vi k)] [] X2 I L (pI (sm (fun a => ct (fun b => bt (so (fun b => ¬ b = a ∧ cCL I (I 1 3) a b) (I 1 4).toNat) b = true) 5) (I 1 4).toNat / 2) I L)) (I 1 4) 0 (by omega) ?_ ?_
    · refine Wk.iload_n (k := 2) (q := 5) (by decide +kernel) rfl rfl rfl ?_
      refine Wk.aload_n (k := 0) (q := 6) (by decide +kernel) rfl rfl rfl ?_
      refine Wk.getI (z := 4) (q := 9) f_Swing_58 (by decide +kernel) O_1 (by decide) rfl rfl rfl ?_
      refine Wk.icmp_ge (off := (24)) (t := 33) (q := 12) (by decide +kernel) (by decide) rfl (by first | omega | exact bi_rng _) (by first | omega | exact bi_rng _) (fun hc9 => ?_) (fun hc9 => ?_)
      · refine Wk.iload_n (k := 1) (q := 34) (by decide +kernel) rfl rfl rfl ?_
        refine Wk.iconst (n := 2) (q := 35) (by decide +kernel) rfl ?_
        refine Wk.idiv (q := 36) (by decide +kernel) (by first | omega | exact bi_rng _) (by first | omega | exact bi_rng _) rfl ?_
        exact Wk.rI (by decide +kernel) rfl (rfl)
      · omega
    · intro k k0 k1 ih
      rw [sm_step _ k0] at ih
      refine Wk.iload_n (k := 2) (q := 5) (by decide +kernel) rfl rfl rfl ?_
      refine Wk.aload_n (k := 0) (q := 6) (by decide +kernel) rfl rfl rfl ?_
      refine Wk.getI (z := 4) (q := 9) f_Swing_58 (by decide +kernel) O_1 (by decide) rfl rfl rfl ?_
      refine Wk.icmp_ge (off := (24)) (t := 33) (q := 12) (by decide +kernel) (by decide) rfl (by first | omega | exact bi_rng _) (by first | omega | exact bi_rng _) (fun hc9 => ?_) (fun hc9 => ?_)
      · omega
      · refine Wk.iload_n (k := 1) (q := 13) (by decide +kernel) rfl rfl rfl ?_
        refine Wk.aload_n (k := 0) (q := 14) (by decide +kernel) rfl rfl rfl ?_
        refine Wk.iload_n (k := 2) (q := 15) (by decide +kernel) rfl rfl rfl ?_
        refine Wk.aload_n (k := 0) (q := 16) (by decide +kernel) rfl rfl rfl ?_
        refine Wk.getI (z := 3) (q := 19) f_Swing_39 (by decide +kernel) O_1 (by decide) rfl rfl rfl ?_
        refine Wk.cSi (q := 22) l_Swing_94 m_Swing_clashesOf (by decide +kernel) (fun _ h => h) (Nat.le_of_ble_eq_true rfl) (Nat.le_of_ble_eq_true rfl) rfl (c_Swing_clashesOf k0 k1 (by omega) hC) rfl ?_
        refine Wk.cSi (q := 25) l_Swing_97 m_Integer_bitCount (by decide +kernel) (fun _ h => h) (Nat.le_of_ble_eq_true rfl) (Nat.le_of_ble_eq_true rfl) rfl (c_Integer_bitCount (so_r5 _ (by omega)).1 (so_r5 _ (by omega)).2) rfl ?_
        refine Wk.iadd (q := 26) (by decide +kernel) rfl ?_
        refine Wk.istore_n (k := 1) (q := 27) (by decide +kernel) rfl (by decide) rfl (fun _ h => h) rfl ?_
        refine Wk.iinc (i := 2) (n := 1) (q := 30) (by decide +kernel) rfl (by decide) rfl (fun _ h => h) rfl ?_
        refine Wk.goto (off := (-26)) (q := 4) (by decide +kernel) (by decide) ?_
        exact ih
  refine Wk.iconst (n := 0) (q := 1) (by decide +kernel) rfl ?_
  refine Wk.istore_n (k := 1) (q := 2) (by decide +kernel) rfl (by decide) rfl (fun _ h => h) rfl ?_
  refine Wk.iconst (n := 0) (q := 3) (by decide +kernel) rfl ?_
  refine Wk.istore_n (k := 2) (q := 4) (by decide +kernel) rfl (by decide) rfl (fun _ h => h) rfl ?_
  exact key
theorem c_Mod_sweepers {x y : Int} (hM : MW I) (hx : 0 ≤ x ∧ x ≤ 6) (hy : 0 ≤ y ∧ y ≤ 6) : Wk xs x_Mod_sweepers (d + 4) 0 0 0 [some (vr 148), some (vi x), some (vi y), none, none] [] X2 I L (pI (so (fun a => mSW I (55 + 4 * a) (I 149 (55 + 4 * a + 3)) x y) (I 149 4).toNat) I L) := by
  obtain ⟨hI, hS, hQ⟩ := id hM
  obtain ⟨hW, hH, hT, hF, hA, hK, hD⟩ := id hI
  have h49 := WH49 (W := I 149 0) (H := I 149 1) (by omega) (by omega)
  have key : Wk xs x_Mod_sweepers (d + 4) 0 0 5 [some (vr 148), some (vi x), some (vi y), some (vi (so (fun a => mSW I (55 + 4 * a) (I 149 (55 + 4 * a + 3)) x y) (0 : Int).toNat)), some (vi 0)] [] X2 I L (pI (so (fun a => mSW I (55 + 4 * a) (I 149 (55 + 4 * a + 3)) x y) (I 149 4).toNat) I L) := by
    refine loopI (fun k => Wk xs x_Mod_sweepers (d + 4) 0 0 5 [some (vr 148), some (vi x), some (vi y), some (vi (so (fun a => mSW I (55 + 4 * a) (I 149 (55 + 4 * a + 3)) x y) k.toNat)), some (vi k)] [] X2 I L (pI (so (fun a => mSW I (55 + 4 * a) (I 149 (55 + 4 * a + 3)) x y) (I 149 4).toNat) I L)) (I 149 4) 0 (by omega) ?_ ?_
    · refine Wk.iload (i := 4) (q := 7) (by decide +kernel) rfl rfl ?_
      refine Wk.aload_n (k := 0) (q := 8) (by decide +kernel) rfl rfl rfl ?_
      refine Wk.getR (r := 149) (q := 11) f_Mod_7 (by decide +kernel) O_148 (by decide) rfl rfl rfl ?_
      refine Wk.iconst (n := 4) (q := 12) (by decide +kernel) rfl ?_
      refine Wk.iaload (q := 13) (by decide +kernel) A_149 (by first | omega | exact bi_rng _) (by first | omega | exact bi_rng _) rfl ?_
      refine Wk.icmp_ge (off := (46)) (t := 59) (q := 16) (by decide +kernel) (by decide) rfl (by first | omega | exact bi_rng _) (by first | omega | exact bi_rng _) (fun hc13 => ?_) (fun hc13 => ?_)
      · refine Wk.iload_n (k := 3) (q := 60) (by decide +kernel) rfl rfl rfl ?_
        exact Wk.rI (by decide +kernel) rfl (rfl)
      · omega
    · intro k k0 k1 ih
      have hs := so_range (fun a => mSW I (55 + 4 * a) (I 149 (55 + 4 * a + 3)) x y) k.toNat
      have hs2 := so_r5 (fun a => mSW I (55 + 4 * a) (I 149 (55 + 4 * a + 3)) x y) (n := k.toNat) (by omega)
      rw [so_step _ k0] at ih
      refine Wk.iload (i := 4) (q := 7) (by decide +kernel) rfl rfl ?_
      refine Wk.aload_n (k := 0) (q := 8) (by decide +kernel) rfl rfl rfl ?_
      refine Wk.getR (r := 149) (q := 11) f_Mod_7 (by decide +kernel) O_148 (by decide) rfl rfl rfl ?_
      refine Wk.iconst (n := 4) (q := 12) (by decide +kernel) rfl ?_
      refine Wk.iaload (q := 13) (by decide +kernel) A_149 (by first | omega | exact bi_rng _) (by first | omega | exact bi_rng _) rfl ?_
      refine Wk.icmp_ge (off := (46)) (t := 59) (q := 16) (by decide +kernel) (by decide) rfl (by first | omega | exact bi_rng _) (by first | omega | exact bi_rng _) (fun hc13 => ?_) (fun hc13 => ?_)
      · omega
      · refine Wk.iload_n (k := 3) (q := 17) (by decide +kernel) rfl rfl rfl ?_
        refine Wk.aload_n (k := 0) (q := 18) (by decide +kernel) rfl rfl rfl ?_
        refine Wk.iload (i := 4) (q := 20) (by decide +kernel) rfl rfl ?_
        refine Wk.cSi (q := 23) l_Mod_77 m_Mod_shipAt (by decide +kernel) (fun _ h => h) (Nat.le_of_ble_eq_true rfl) (Nat.le_of_ble_eq_true rfl) rfl (c_Mod_shipAt) rfl ?_
        refine Wk.aload_n (k := 0) (q := 24) (by decide +kernel) rfl rfl rfl ?_
        refine Wk.getR (r := 149) (q := 27) f_Mod_7 (by decide +kernel) O_148 (by decide) rfl rfl rfl ?_
        refine Wk.iload (i := 4) (q := 29) (by decide +kernel) rfl rfl ?_
        refine Wk.cSi (q := 32) l_Mod_77 m_Mod_shipAt (by decide +kernel) (fun _ h => h) (Nat.le_of_ble_eq_true rfl) (Nat.le_of_ble_eq_true rfl) rfl (c_Mod_shipAt) rfl ?_
        refine Wk.iconst (n := 3) (q := 33) (by decide +kernel) rfl ?_
        refine Wk.iadd (q := 34) (by decide +kernel) rfl ?_
        refine Wk.iaload (q := 35) (by decide +kernel) A_149 (by first | omega | exact bi_rng _) (by first | omega | exact bi_rng _) rfl ?_
        refine Wk.iload_n (k := 1) (q := 36) (by decide +kernel) rfl rfl rfl ?_
        refine Wk.iload_n (k := 2) (q := 37) (by decide +kernel) rfl rfl rfl ?_
        refine Wk.cVi (q := 40) l_Mod_125 m_Mod_sweeps (by decide +kernel) (fun _ h => h) O_148 rfl (Nat.le_of_ble_eq_true rfl) (Nat.le_of_ble_eq_true rfl) rfl (c_Mod_sweeps hI (hS k k0 k1).1 (hS k k0 k1).2 hx hy) rfl ?_
        refine Wk.ifB_eq (off := (10)) (t := 50) (q := 43) (by decide +kernel) (by decide) rfl (fun hc40 => ?_) (fun hc40 => ?_)
        · refine Wk.iconst (n := 0) (q := 51) (by decide +kernel) rfl ?_
          refine Wk.ior (q := 52) (by decide +kernel) rfl ?_
          refine Wk.istore_n (k := 3) (q := 53) (by decide +kernel) rfl (by decide) rfl (fun _ h => h) rfl ?_
          refine Wk.iinc (i := 4) (n := 1) (q := 56) (by decide +kernel) rfl (by decide) rfl (fun _ h => h) rfl ?_
          refine Wk.goto (off := (-51)) (q := 5) (by decide +kernel) (by decide) ?_
          first
            | (rw [or_above hs.1 hs.2 k0 (by omega)]
               rw [bi_t (hc40), Int.one_mul] at ih
               exact ih)
            | (rw [or_nil hs2.1 (by omega)]
               rw [bi_f (hc40), Int.zero_mul, Int.add_zero] at ih
               exact ih)
        · refine Wk.iconst (n := 1) (q := 44) (by decide +kernel) rfl ?_
          refine Wk.iload (i := 4) (q := 46) (by decide +kernel) rfl rfl ?_
          refine Wk.ishl (q := 47) (by decide +kernel) rfl ?_
          refine Wk.goto (off := (4)) (q := 51) (by decide +kernel) (by decide) ?_
          refine Wk.ior (q := 52) (by decide +kernel) rfl ?_
          refine Wk.istore_n (k := 3) (q := 53) (by decide +kernel) rfl (by decide) rfl (fun _ h => h) rfl ?_
          refine Wk.iinc (i := 4) (n := 1) (q := 56) (by decide +kernel) rfl (by decide) rfl (fun _ h => h) rfl ?_
          refine Wk.goto (off := (-51)) (q := 5) (by decide +kernel) (by decide) ?_
          first
            | (rw [or_above hs.1 hs.2 k0 (by omega)]
               rw [bi_t (hc40), Int.one_mul] at ih
               exact ih)
            | (rw [or_nil hs2.1 (by omega)]
               rw [bi_f (hc40), Int.zero_mul, Int.add_zero] at ih
               exact ih)
  refine Wk.iconst (n := 0) (q := 1) (by decide +kernel) rfl ?_
  refine Wk.istore_n (k := 3) (q := 2) (by decide +kernel) rfl (by decide) rfl (fun _ h => h) rfl ?_
  refine Wk.iconst (n := 0) (q := 3) (by decide +kernel) rfl ?_
  refine Wk.istore (i := 4) (q := 5) (by decide +kernel) (by decide) rfl (fun _ h => h) rfl ?_
  exact key
theorem c_Mod_swept (hM : MW I) : Wk xs x_Mod_swept (d + 5) 0 0 0 [some (vr 148), none, none] [] X2 I L (pI (ct (fun c => ¬ so (fun a => mSW I (55 + 4 * a) (I 149 (55 + 4 * a + 3)) (c % I 149 0) (c / I 149 0)) (I 149 4).toNat = 0) (I 149 0 * I 149 1).toNat) I L) := by
  obtain ⟨hI, hS, hQ⟩ := id hM
  obtain ⟨hW, hH, hT, hF, hA, hK, hD⟩ := id hI
  have h49 := WH49 (W := I 149 0) (H := I 149 1) (by omega) (by omega)
  have key : Wk xs x_Mod_swept (d + 5) 0 0 4 [some (vr 148), some (vi (ct (fun c => ¬ so (fun a => mSW I (55 + 4 * a) (I 149 (55 + 4 * a + 3)) (c % I 149 0) (c / I 149 0)) (I 149 4).toNat = 0) (0 : Int).toNat)), some (vi 0)] [] X2 I L (pI (ct (fun c => ¬ so (fun a => mSW I (55 + 4 * a) (I 149 (55 + 4 * a + 3)) (c % I 149 0) (c / I 149 0)) (I 149 4).toNat = 0) (I 149 0 * I 149 1).toNat) I L) := by
    refine loopI (fun k => Wk xs x_Mod_swept (d + 5) 0 0 4 [some (vr 148), some (vi (ct (fun c => ¬ so (fun a => mSW I (55 + 4 * a) (I 149 (55 + 4 * a + 3)) (c % I 149 0) (c / I 149 0)) (I 149 4).toNat = 0) k.toNat)), some (vi k)] [] X2 I L (pI (ct (fun c => ¬ so (fun a => mSW I (55 + 4 * a) (I 149 (55 + 4 * a + 3)) (c % I 149 0) (c / I 149 0)) (I 149 4).toNat = 0) (I 149 0 * I 149 1).toNat) I L)) (I 149 0 * I 149 1) 0 (by omega) ?_ ?_
    · refine Wk.iload_n (k := 2) (q := 5) (by decide +kernel) rfl rfl rfl ?_
      refine Wk.aload_n (k := 0) (q := 6) (by decide +kernel) rfl rfl rfl ?_
      refine Wk.cVi (q := 9) l_Mod_97 m_Mod_cells (by decide +kernel) (fun _ h => h) O_148 rfl (Nat.le_of_ble_eq_true rfl) (Nat.le_of_ble_eq_true rfl) rfl (c_Mod_cells) rfl ?_
      refine Wk.icmp_ge (off := (40)) (t := 49) (q := 12) (by decide +kernel) (by decide) rfl (by first | omega | exact bi_rng _) (by first | omega | exact bi_rng _) (fun hc9 => ?_) (fun hc9 => ?_)
      · refine Wk.iload_n (k := 1) (q := 50) (by decide +kernel) rfl rfl rfl ?_
        exact Wk.rI (by decide +kernel) rfl (rfl)
      · omega
    · intro k k0 k1 ih
      rw [ct_step _ k0] at ih
      obtain ⟨hcx, hcy⟩ := mcoord hW.1 k0 k1
      have hso : 0 ≤ so (fun a => mSW I (55 + 4 * a) (I 149 (55 + 4 * a + 3)) (k % I 149 0) (k / I 149 0)) (I 149 4).toNat ∧ so (fun a => mSW I (55 + 4 * a) (I 149 (55 + 4 * a + 3)) (k % I 149 0) (k / I 149 0)) (I 149 4).toNat < 32 := so_r5 _ (by omega)
      refine Wk.iload_n (k := 2) (q := 5) (by decide +kernel) rfl rfl rfl ?_
      refine Wk.aload_n (k := 0) (q := 6) (by decide +kernel) rfl rfl rfl ?_
      refine Wk.cVi (q := 9) l_Mod_97 m_Mod_cells (by decide +kernel) (fun _ h => h) O_148 rfl (Nat.le_of_ble_eq_true rfl) (Nat.le_of_ble_eq_true rfl) rfl (c_Mod_cells) rfl ?_
      refine Wk.icmp_ge (off := (40)) (t := 49) (q := 12) (by decide +kernel) (by decide) rfl (by first | omega | exact bi_rng _) (by first | omega | exact bi_rng _) (fun hc9 => ?_) (fun hc9 => ?_)
      · omega
      · refine Wk.iload_n (k := 1) (q := 13) (by decide +kernel) rfl rfl rfl ?_
        refine Wk.aload_n (k := 0) (q := 14) (by decide +kernel) rfl rfl rfl ?_
        refine Wk.iload_n (k := 2) (q := 15) (by decide +kernel) rfl rfl rfl ?_
        refine Wk.aload_n (k := 0) (q := 16) (by decide +kernel) rfl rfl rfl ?_
        refine Wk.getR (r := 149) (q := 19) f_Mod_7 (by decide +kernel) O_148 (by decide) rfl rfl rfl ?_
        refine Wk.iconst (n := 0) (q := 20) (by decide +kernel) rfl ?_
        refine Wk.iaload (q := 21) (by decide +kernel) A_149 (by first | omega | exact bi_rng _) (by first | omega | exact bi_rng _) rfl ?_
        refine Wk.irem (q := 22) (by decide +kernel) (by first | omega | exact bi_rng _) (by first | omega | exact bi_rng _) rfl ?_
        refine Wk.iload_n (k := 2) (q := 23) (by decide +kernel) rfl rfl rfl ?_
        refine Wk.aload_n (k := 0) (q := 24) (by decide +kernel) rfl rfl rfl ?_
        refine Wk.getR (r := 149) (q := 27) f_Mod_7 (by decide +kernel) O_148 (by decide) rfl rfl rfl ?_
        refine Wk.iconst (n := 0) (q := 28) (by decide +kernel) rfl ?_
        refine Wk.iaload (q := 29) (by decide +kernel) A_149 (by first | omega | exact bi_rng _) (by first | omega | exact bi_rng _) rfl ?_
        refine Wk.idiv (q := 30) (by decide +kernel) (by first | omega | exact bi_rng _) (by first | omega | exact bi_rng _) rfl ?_
        refine Wk.cVi (q := 33) l_Mod_128 m_Mod_sweepers (by decide +kernel) (fun _ h => h) O_148 rfl (Nat.le_of_ble_eq_true rfl) (Nat.le_of_ble_eq_true rfl) rfl (c_Mod_sweepers hM (by omega) (by omega)) rfl ?_
        refine Wk.if_eq (off := (7)) (t := 40) (q := 36) (by decide +kernel) (by decide) rfl (by first | omega | exact bi_rng _) (fun hc33 => ?_) (fun hc33 => ?_)
        · refine Wk.iconst (n := 0) (q := 41) (by decide +kernel) rfl ?_
          refine Wk.iadd (q := 42) (by decide +kernel) rfl ?_
          refine Wk.istore_n (k := 1) (q := 43) (by decide +kernel) rfl (by decide) rfl (fun _ h => h) rfl ?_
          refine Wk.iinc (i := 2) (n := 1) (q := 46) (by decide +kernel) rfl (by decide) rfl (fun _ h => h) rfl ?_
          refine Wk.goto (off := (-42)) (q := 4) (by decide +kernel) (by decide) ?_
          first
            | (rw [bi_t (hc33)] at ih
               exact ih)
            | (rw [bi_f (fun z => z hc33)] at ih
               exact ih)
        · refine Wk.iconst (n := 1) (q := 37) (by decide +kernel) rfl ?_
          refine Wk.goto (off := (4)) (q := 41) (by decide +kernel) (by decide) ?_
          refine Wk.iadd (q := 42) (by decide +kernel) rfl ?_
          refine Wk.istore_n (k := 1) (q := 43) (by decide +kernel) rfl (by decide) rfl (fun _ h => h) rfl ?_
          refine Wk.iinc (i := 2) (n := 1) (q := 46) (by decide +kernel) rfl (by decide) rfl (fun _ h => h) rfl ?_
          refine Wk.goto (off := (-42)) (q := 4) (by decide +kernel) (by decide) ?_
          first
            | (rw [bi_t (hc33)] at ih
               exact ih)
            | (rw [bi_f (fun z => z hc33)] at ih
               exact ih)
  refine Wk.iconst (n := 0) (q := 1) (by decide +kernel) rfl ?_
  refine Wk.istore_n (k := 1) (q := 2) (by decide +kernel) rfl (by decide) rfl (fun _ h => h) rfl ?_
  refine Wk.iconst (n := 0) (q := 3) (by decide +kernel) rfl ?_
  refine Wk.istore_n (k := 2) (q := 4) (by decide +kernel) rfl (by decide) rfl (fun _ h => h) rfl ?_
  exact key
theorem c_Mod_sweptBy {a : Int} (h0 : 0 ≤ a) (h1 : a < I 149 4) (hM : MW I) : Wk xs x_Mod_sweptBy (d + 5) 0 0 0 [some (vr 148), some (vi a), none, none] [] X2 I L (pI (ct (fun c => bt (so (fun a => mSW I (55 + 4 * a) (I 149 (55 + 4 * a + 3)) (c % I 149 0) (c / I 149 0)) (I 149 4).toNat) a = true) (I 149 0 * I 149 1).toNat) I L) := by
  obtain ⟨hI, hS, hQ⟩ := id hM
  obtain ⟨hW, hH, hT, hF, hA, hK, hD⟩ := id hI
  have h49 := WH49 (W := I 149 0) (H := I 149 1) (by omega) (by omega)
  have key : Wk xs x_Mod_sweptBy (d + 5) 0 0 4 [some (vr 148), some (vi a), some (vi (ct (fun c => bt (so (fun a => mSW I (55 + 4 * a) (I 149 (55 + 4 * a + 3)) (c % I 149 0) (c / I 149 0)) (I 149 4).toNat) a = true) (0 : Int).toNat)), some (vi 0)] [] X2 I L (pI (ct (fun c => bt (so (fun a => mSW I (55 + 4 * a) (I 149 (55 + 4 * a + 3)) (c % I 149 0) (c / I 149 0)) (I 149 4).toNat) a = true) (I 149 0 * I 149 1).toNat) I L) := by
    refine loopI (fun k => Wk xs x_Mod_sweptBy (d + 5) 0 0 4 [some (vr 148), some (vi a), some (vi (ct (fun c => bt (so (fun a => mSW I (55 + 4 * a) (I 149 (55 + 4 * a + 3)) (c % I 149 0) (c / I 149 0)) (I 149 4).toNat) a = true) k.toNat)), some (vi k)] [] X2 I L (pI (ct (fun c => bt (so (fun a => mSW I (55 + 4 * a) (I 149 (55 + 4 * a + 3)) (c % I 149 0) (c / I 149 0)) (I 149 4).toNat) a = true) (I 149 0 * I 149 1).toNat) I L)) (I 149 0 * I 149 1) 0 (by omega) ?_ ?_
    · refine Wk.iload_n (k := 3) (q := 5) (by decide +kernel) rfl rfl rfl ?_
      refine Wk.aload_n (k := 0) (q := 6) (by decide +kernel) rfl rfl rfl ?_
      refine Wk.cVi (q := 9) l_Mod_97 m_Mod_cells (by decide +kernel) (fun _ h => h) O_148 rfl (Nat.le_of_ble_eq_true rfl) (Nat.le_of_ble_eq_true rfl) rfl (c_Mod_cells) rfl ?_
      refine Wk.icmp_ge (off := (44)) (t := 53) (q := 12) (by decide +kernel) (by decide) rfl (by first | omega | exact bi_rng _) (by first | omega | exact bi_rng _) (fun hc9 => ?_) (fun hc9 => ?_)
      · refine Wk.iload_n (k := 2) (q := 54) (by decide +kernel) rfl rfl rfl ?_
        exact Wk.rI (by decide +kernel) rfl (rfl)
      · omega
    · intro k k0 k1 ih
      rw [ct_step _ k0] at ih
      obtain ⟨hcx, hcy⟩ := mcoord hW.1 k0 k1
      have hso : 0 ≤ so (fun a => mSW I (55 + 4 * a) (I 149 (55 + 4 * a + 3)) (k % I 149 0) (k / I 149 0)) (I 149 4).toNat ∧ so (fun a => mSW I (55 + 4 * a) (I 149 (55 + 4 * a + 3)) (k % I 149 0) (k / I 149 0)) (I 149 4).toNat < 32 := so_r5 _ (by omega)
      refine Wk.iload_n (k := 3) (q := 5) (by decide +kernel) rfl rfl rfl ?_
      refine Wk.aload_n (k := 0) (q := 6) (by decide +kernel) rfl rfl rfl ?_
      refine Wk.cVi (q := 9) l_Mod_97 m_Mod_cells (by decide +kernel) (fun _ h => h) O_148 rfl (Nat.le_of_ble_eq_true rfl) (Nat.le_of_ble_eq_true rfl) rfl (c_Mod_cells) rfl ?_
      refine Wk.icmp_ge (off := (44)) (t := 53) (q := 12) (by decide +kernel) (by decide) rfl (by first | omega | exact bi_rng _) (by first | omega | exact bi_rng _) (fun hc9 => ?_) (fun hc9 => ?_)
      · omega
      · refine Wk.iload_n (k := 2) (q := 13) (by decide +kernel) rfl rfl rfl ?_
        refine Wk.aload_n (k := 0) (q := 14) (by decide +kernel) rfl rfl rfl ?_
        refine Wk.iload_n (k := 3) (q := 15) (by decide +kernel) rfl rfl rfl ?_
        refine Wk.aload_n (k := 0) (q := 16) (by decide +kernel) rfl rfl rfl ?_
        refine Wk.getR (r := 149) (q := 19) f_Mod_7 (by decide +kernel) O_148 (by decide) rfl rfl rfl ?_
        refine Wk.iconst (n := 0) (q := 20) (by decide +kernel) rfl ?_
        refine Wk.iaload (q := 21) (by decide +kernel) A_149 (by first | omega | exact bi_rng _) (by first | omega | exact bi_rng _) rfl ?_
        refine Wk.irem (q := 22) (by decide +kernel) (by first | omega | exact bi_rng _) (by first | omega | exact bi_rng _) rfl ?_
        refine Wk.iload_n (k := 3) (q := 23) (by decide +kernel) rfl rfl rfl ?_
        refine Wk.aload_n (k := 0) (q := 24) (by decide +kernel) rfl rfl rfl ?_
        refine Wk.getR (r := 149) (q := 27) f_Mod_7 (by decide +kernel) O_148 (by decide) rfl rfl rfl ?_
        refine Wk.iconst (n := 0) (q := 28) (by decide +kernel) rfl ?_
        refine Wk.iaload (q := 29) (by decide +kernel) A_149 (by first | omega | exact bi_rng _) (by first | omega | exact bi_rng _) rfl ?_
        refine Wk.idiv (q := 30) (by decide +kernel) (by first | omega | exact bi_rng _) (by first | omega | exact bi_rng _) rfl ?_
        refine Wk.cVi (q := 33) l_Mod_128 m_Mod_sweepers (by decide +kernel) (fun _ h => h) O_148 rfl (Nat.le_of_ble_eq_true rfl) (Nat.le_of_ble_eq_true rfl) rfl (c_Mod_sweepers hM (by omega) (by omega)) rfl ?_
        refine Wk.iload_n (k := 1) (q := 34) (by decide +kernel) rfl rfl rfl ?_
        refine Wk.cSi (q := 37) l_Mod_58 m_Mod_has (by decide +kernel) (fun _ h => h) (Nat.le_of_ble_eq_true rfl) (Nat.le_of_ble_eq_true rfl) rfl (c_Mod_has (by omega) (by omega) (by omega) (by omega)) rfl ?_
        refine Wk.ifB_eq (off := (7)) (t := 44) (q := 40) (by decide +kernel) (by decide) rfl (fun hc37 => ?_) (fun hc37 => ?_)
        · refine Wk.iconst (n := 0) (q := 45) (by decide +kernel) rfl ?_
          refine Wk.iadd (q := 46) (by decide +kernel) rfl ?_
          refine Wk.istore_n (k := 2) (q := 47) (by decide +kernel) rfl (by decide) rfl (fun _ h => h) rfl ?_
          refine Wk.iinc (i := 3) (n := 1) (q := 50) (by decide +kernel) rfl (by decide) rfl (fun _ h => h) rfl ?_
          refine Wk.goto (off := (-46)) (q := 4) (by decide +kernel) (by decide) ?_
          first
            | (rw [bi_t (hc37)] at ih
               exact ih)
            | (rw [bi_f (hc37)] at ih
               exact ih)
        · refine Wk.iconst (n := 1) (q := 41) (by decide +kernel) rfl ?_
          refine Wk.goto (off := (4)) (q := 45) (by decide +kernel) (by decide) ?_
          refine Wk.iadd (q := 46) (by decide +kernel) rfl ?_
          refine Wk.istore_n (k := 2) (q := 47) (by decide +kernel) rfl (by decide) rfl (fun _ h => h) rfl ?_
          refine Wk.iinc (i := 3) (n := 1) (q := 50) (by decide +kernel) rfl (by decide) rfl (fun _ h => h) rfl ?_
          refine Wk.goto (off := (-46)) (q := 4) (by decide +kernel) (by decide) ?_
          first
            | (rw [bi_t (hc37)] at ih
               exact ih)
            | (rw [bi_f (hc37)] at ih
               exact ih)
  refine Wk.iconst (n := 0) (q := 1) (by decide +kernel) rfl ?_
  refine Wk.istore_n (k := 2) (q := 2) (by decide +kernel) rfl (by decide) rfl (fun _ h => h) rfl ?_
  refine Wk.iconst (n := 0) (q := 3) (by decide +kernel) rfl ?_
  refine Wk.istore_n (k := 3) (q := 4) (by decide +kernel) rfl (by decide) rfl (fun _ h => h) rfl ?_
  exact key
theorem c_Mod_fitters {c : Int} (hM : MW I) (hc : mC I c) : Wk xs x_Mod_fitters (d + 6) 0 0 0 [some (vr 148), some (vi c), none, none] [] X2 I L (pI (so (fun k => mFr I (75 + 4 * k) 0 c) (I 149 5).toNat) I L) := by
  obtain ⟨hI, hS, hQ⟩ := id hM
  obtain ⟨hW, hH, hT, hF, hA, hK, hD⟩ := id hI
  have h49 := WH49 (W := I 149 0) (H := I 149 1) (by omega) (by omega)
  have key : Wk xs x_Mod_fitters (d + 6) 0 0 4 [some (vr 148), some (vi c), some (vi (so (fun k => mFr I (75 + 4 * k) 0 c) (0 : Int).toNat)), some (vi 0)] [] X2 I L (pI (so (fun k => mFr I (75 + 4 * k) 0 c) (I 149 5).toNat) I L) := by
    refine loopI (fun k => Wk xs x_Mod_fitters (d + 6) 0 0 4 [some (vr 148), some (vi c), some (vi (so (fun k => mFr I (75 + 4 * k) 0 c) k.toNat)), some (vi k)] [] X2 I L (pI (so (fun k => mFr I (75 + 4 * k) 0 c) (I 149 5).toNat) I L)) (I 149 5) 0 (by omega) ?_ ?_
    · refine Wk.iload_n (k := 3) (q := 5) (by decide +kernel) rfl rfl rfl ?_
      refine Wk.aload_n (k := 0) (q := 6) (by decide +kernel) rfl rfl rfl ?_
      refine Wk.getR (r := 149) (q := 9) f_Mod_7 (by decide +kernel) O_148 (by decide) rfl rfl rfl ?_
      refine Wk.iconst (n := 5) (q := 10) (by decide +kernel) rfl ?_
      refine Wk.iaload (q := 11) (by decide +kernel) A_149 (by first | omega | exact bi_rng _) (by first | omega | exact bi_rng _) rfl ?_
      refine Wk.icmp_ge (off := (32)) (t := 43) (q := 14) (by decide +kernel) (by decide) rfl (by first | omega | exact bi_rng _) (by first | omega | exact bi_rng _) (fun hc11 => ?_) (fun hc11 => ?_)
      · refine Wk.iload_n (k := 2) (q := 44) (by decide +kernel) rfl rfl rfl ?_
        exact Wk.rI (by decide +kernel) rfl (rfl)
      · omega
    · intro k k0 k1 ih
      have hs := so_range (fun k => mFr I (75 + 4 * k) 0 c) k.toNat
      have hs2 := so_r5 (fun k => mFr I (75 + 4 * k) 0 c) (n := k.toNat) (by omega)
      rw [so_step _ k0] at ih
      refine Wk.iload_n (k := 3) (q := 5) (by decide +kernel) rfl rfl rfl ?_
      refine Wk.aload_n (k := 0) (q := 6) (by decide +kernel) rfl rfl rfl ?_
      refine Wk.getR (r := 149) (q := 9) f_Mod_7 (by decide +kernel) O_148 (by decide) rfl rfl rfl ?_
      refine Wk.iconst (n := 5) (q := 10) (by decide +kernel) rfl ?_
      refine Wk.iaload (q := 11) (by decide +kernel) A_149 (by first | omega | exact bi_rng _) (by first | omega | exact bi_rng _) rfl ?_
      refine Wk.icmp_ge (off := (32)) (t := 43) (q := 14) (by decide +kernel) (by decide) rfl (by first | omega | exact bi_rng _) (by first | omega | exact bi_rng _) (fun hc11 => ?_) (fun hc11 => ?_)
      · omega
      · refine Wk.iload_n (k := 2) (q := 15) (by decide +kernel) rfl rfl rfl ?_
        refine Wk.aload_n (k := 0) (q := 16) (by decide +kernel) rfl rfl rfl ?_
        refine Wk.iload_n (k := 3) (q := 17) (by decide +kernel) rfl rfl rfl ?_
        refine Wk.cSi (q := 20) l_Mod_100 m_Mod_waitAt (by decide +kernel) (fun _ h => h) (Nat.le_of_ble_eq_true rfl) (Nat.le_of_ble_eq_true rfl) rfl (c_Mod_waitAt) rfl ?_
        refine Wk.iload_n (k := 1) (q := 21) (by decide +kernel) rfl rfl rfl ?_
        refine Wk.iconst (n := 0) (q := 22) (by decide +kernel) rfl ?_
        refine Wk.cVi (q := 25) l_Mod_103 m_Mod_isFree (by decide +kernel) (fun _ h => h) O_148 rfl (Nat.le_of_ble_eq_true rfl) (Nat.le_of_ble_eq_true rfl) rfl (c_Mod_isFree hM (hQ k k0 k1) hc (by omega)) rfl ?_
        refine Wk.ifB_eq (off := (9)) (t := 34) (q := 28) (by decide +kernel) (by decide) rfl (fun hc25 => ?_) (fun hc25 => ?_)
        · refine Wk.iconst (n := 0) (q := 35) (by decide +kernel) rfl ?_
          refine Wk.ior (q := 36) (by decide +kernel) rfl ?_
          refine Wk.istore_n (k := 2) (q := 37) (by decide +kernel) rfl (by decide) rfl (fun _ h => h) rfl ?_
          refine Wk.iinc (i := 3) (n := 1) (q := 40) (by decide +kernel) rfl (by decide) rfl (fun _ h => h) rfl ?_
          refine Wk.goto (off := (-36)) (q := 4) (by decide +kernel) (by decide) ?_
          first
            | (rw [or_above hs.1 hs.2 k0 (by omega)]
               rw [bi_t (hc25), Int.one_mul] at ih
               exact ih)
            | (rw [or_nil hs2.1 (by omega)]
               rw [bi_f (hc25), Int.zero_mul, Int.add_zero] at ih
               exact ih)
        · refine Wk.iconst (n := 1) (q := 29) (by decide +kernel) rfl ?_
          refine Wk.iload_n (k := 3) (q := 30) (by decide +kernel) rfl rfl rfl ?_
          refine Wk.ishl (q := 31) (by decide +kernel) rfl ?_
          refine Wk.goto (off := (4)) (q := 35) (by decide +kernel) (by decide) ?_
          refine Wk.ior (q := 36) (by decide +kernel) rfl ?_
          refine Wk.istore_n (k := 2) (q := 37) (by decide +kernel) rfl (by decide) rfl (fun _ h => h) rfl ?_
          refine Wk.iinc (i := 3) (n := 1) (q := 40) (by decide +kernel) rfl (by decide) rfl (fun _ h => h) rfl ?_
          refine Wk.goto (off := (-36)) (q := 4) (by decide +kernel) (by decide) ?_
          first
            | (rw [or_above hs.1 hs.2 k0 (by omega)]
               rw [bi_t (hc25), Int.one_mul] at ih
               exact ih)
            | (rw [or_nil hs2.1 (by omega)]
               rw [bi_f (hc25), Int.zero_mul, Int.add_zero] at ih
               exact ih)
  refine Wk.iconst (n := 0) (q := 1) (by decide +kernel) rfl ?_
  refine Wk.istore_n (k := 2) (q := 2) (by decide +kernel) rfl (by decide) rfl (fun _ h => h) rfl ?_
  refine Wk.iconst (n := 0) (q := 3) (by decide +kernel) rfl ?_
  refine Wk.istore_n (k := 3) (q := 4) (by decide +kernel) rfl (by decide) rfl (fun _ h => h) rfl ?_
  exact key
theorem c_Mod_places {q : Int} (h0 : 0 ≤ q) (h1 : q < I 149 5) (hM : MW I) : Wk xs x_Mod_places (d + 6) 0 0 0 [some (vr 148), some (vi q), none, none] [] X2 I L (pI (ct (fun c => mFr I (75 + 4 * q) 0 c) (I 149 0 * I 149 1).toNat) I L) := by
  obtain ⟨hI, hS, hQ⟩ := id hM
  obtain ⟨hW, hH, hT, hF, hA, hK, hD⟩ := id hI
  have h49 := WH49 (W := I 149 0) (H := I 149 1) (by omega) (by omega)
  have key : Wk xs x_Mod_places (d + 6) 0 0 4 [some (vr 148), some (vi q), some (vi (ct (fun c => mFr I (75 + 4 * q) 0 c) (0 : Int).toNat)), some (vi 0)] [] X2 I L (pI (ct (fun c => mFr I (75 + 4 * q) 0 c) (I 149 0 * I 149 1).toNat) I L) := by
    refine loopI (fun k => Wk xs x_Mod_places (d + 6) 0 0 4 [some (vr 148), some (vi q), some (vi (ct (fun c => mFr I (75 + 4 * q) 0 c) k.toNat)), some (vi k)] [] X2 I L (pI (ct (fun c => mFr I (75 + 4 * q) 0 c) (I 149 0 * I 149 1).toNat) I L)) (I 149 0 * I 149 1) 0 (by omega) ?_ ?_
    · refine Wk.iload_n (k := 3) (q := 5) (by decide +kernel) rfl rfl rfl ?_
      refine Wk.aload_n (k := 0) (q := 6) (by decide +kernel) rfl rfl rfl ?_
      refine Wk.cVi (q := 9) l_Mod_97 m_Mod_cells (by decide +kernel) (fun _ h => h) O_148 rfl (Nat.le_of_ble_eq_true rfl) (Nat.le_of_ble_eq_true rfl) rfl (c_Mod_cells) rfl ?_
      refine Wk.icmp_ge (off := (30)) (t := 39) (q := 12) (by decide +kernel) (by decide) rfl (by first | omega | exact bi_rng _) (by first | omega | exact bi_rng _) (fun hc9 => ?_) (fun hc9 => ?_)
      · refine Wk.iload_n (k := 2) (q := 40) (by decide +kernel) rfl rfl rfl ?_
        exact Wk.rI (by decide +kernel) rfl (rfl)
      · omega
    · intro k k0 k1 ih
      rw [ct_step _ k0] at ih
      refine Wk.iload_n (k := 3) (q := 5) (by decide +kernel) rfl rfl rfl ?_
      refine Wk.aload_n (k := 0) (q := 6) (by decide +kernel) rfl rfl rfl ?_
      refine Wk.cVi (q := 9) l_Mod_97 m_Mod_cells (by decide +kernel) (fun _ h => h) O_148 rfl (Nat.le_of_ble_eq_true rfl) (Nat.le_of_ble_eq_true rfl) rfl (c_Mod_cells) rfl ?_
      refine Wk.icmp_ge (off := (30)) (t := 39) (q := 12) (by decide +kernel) (by decide) rfl (by first | omega | exact bi_rng _) (by first | omega | exact bi_rng _) (fun hc9 => ?_) (fun hc9 => ?_)
      · omega
      · refine Wk.iload_n (k := 2) (q := 13) (by decide +kernel) rfl rfl rfl ?_
        refine Wk.aload_n (k := 0) (q := 14) (by decide +kernel) rfl rfl rfl ?_
        refine Wk.iload_n (k := 1) (q := 15) (by decide +kernel) rfl rfl rfl ?_
        refine Wk.cSi (q := 18) l_Mod_100 m_Mod_waitAt (by decide +kernel) (fun _ h => h) (Nat.le_of_ble_eq_true rfl) (Nat.le_of_ble_eq_true rfl) rfl (c_Mod_waitAt) rfl ?_
        refine Wk.iload_n (k := 3) (q := 19) (by decide +kernel) rfl rfl rfl ?_
        refine Wk.iconst (n := 0) (q := 20) (by decide +kernel) rfl ?_
        refine Wk.cVi (q := 23) l_Mod_103 m_Mod_isFree (by decide +kernel) (fun _ h => h) O_148 rfl (Nat.le_of_ble_eq_true rfl) (Nat.le_of_ble_eq_true rfl) rfl (c_Mod_isFree hM (hQ q h0 h1) ⟨k0, k1⟩ (by omega)) rfl ?_
        refine Wk.ifB_eq (off := (7)) (t := 30) (q := 26) (by decide +kernel) (by decide) rfl (fun hc23 => ?_) (fun hc23 => ?_)
        · refine Wk.iconst (n := 0) (q := 31) (by decide +kernel) rfl ?_
          refine Wk.iadd (q := 32) (by decide +kernel) rfl ?_
          refine Wk.istore_n (k := 2) (q := 33) (by decide +kernel) rfl (by decide) rfl (fun _ h => h) rfl ?_
          refine Wk.iinc (i := 3) (n := 1) (q := 36) (by decide +kernel) rfl (by decide) rfl (fun _ h => h) rfl ?_
          refine Wk.goto (off := (-32)) (q := 4) (by decide +kernel) (by decide) ?_
          first
            | (rw [bi_t (hc23)] at ih
               exact ih)
            | (rw [bi_f (hc23)] at ih
               exact ih)
        · refine Wk.iconst (n := 1) (q := 27) (by decide +kernel) rfl ?_
          refine Wk.goto (off := (4)) (q := 31) (by decide +kernel) (by decide) ?_
          refine Wk.iadd (q := 32) (by decide +kernel) rfl ?_
          refine Wk.istore_n (k := 2) (q := 33) (by decide +kernel) rfl (by decide) rfl (fun _ h => h) rfl ?_
          refine Wk.iinc (i := 3) (n := 1) (q := 36) (by decide +kernel) rfl (by decide) rfl (fun _ h => h) rfl ?_
          refine Wk.goto (off := (-32)) (q := 4) (by decide +kernel) (by decide) ?_
          first
            | (rw [bi_t (hc23)] at ih
               exact ih)
            | (rw [bi_f (hc23)] at ih
               exact ih)
  refine Wk.iconst (n := 0) (q := 1) (by decide +kernel) rfl ?_
  refine Wk.istore_n (k := 2) (q := 2) (by decide +kernel) rfl (by decide) rfl (fun _ h => h) rfl ?_
  refine Wk.iconst (n := 0) (q := 3) (by decide +kernel) rfl ?_
  refine Wk.istore_n (k := 3) (q := 4) (by decide +kernel) rfl (by decide) rfl (fun _ h => h) rfl ?_
  exact key
theorem c_Mod_firstPlace {q : Int} (h0 : 0 ≤ q) (h1 : q < I 149 5) (hM : MW I) : Wk xs x_Mod_firstPlace (d + 6) 0 0 0 [some (vr 148), some (vi q), none] [] X2 I L (p2 fun v I' L' => (∃ z, v = some (vi z) ∧ Fst (fun c => mFr I (75 + 4 * q) 0 c) (I 149 0 * I 149 1) z) ∧ I' = I ∧ L' = L) := by
  obtain ⟨hI, hS, hQ⟩ := id hM
  obtain ⟨hW, hH, hT, hF, hA, hK, hD⟩ := id hI
  have h49 := WH49 (W := I 149 0) (H := I 149 1) (by omega) (by omega)
  have key : Wk xs x_Mod_firstPlace (d + 6) 0 0 2 [some (vr 148), some (vi q), some (vi 0)] [] X2 I L (p2 fun v I' L' => (∃ z, v = some (vi z) ∧ Fst (fun c => mFr I (75 + 4 * q) 0 c) (I 149 0 * I 149 1) z) ∧ I' = I ∧ L' = L) := by
    refine loopS (σ := Unit) (fun k _ => Wk xs x_Mod_firstPlace (d + 6) 0 0 2 [some (vr 148), some (vi q), some (vi k)] [] X2 I L (p2 fun v I' L' => (∃ z, v = some (vi z) ∧ Fst (fun c => mFr I (75 + 4 * q) 0 c) (I 149 0 * I 149 1) z) ∧ I' = I ∧ L' = L)) (fun j _ => ∀ k, 0 ≤ k → k < j → ¬ (fun c => mFr I (75 + 4 * q) 0 c) k) (I 149 0 * I 149 1) 0 () (by omega) (fun k k0 k1 => by omega) ?_ ?_
    · intro _ hJ
      refine Wk.iload_n (k := 2) (q := 3) (by decide +kernel) rfl rfl rfl ?_
      refine Wk.aload_n (k := 0) (q := 4) (by decide +kernel) rfl rfl rfl ?_
      refine Wk.cVi (q := 7) l_Mod_97 m_Mod_cells (by decide +kernel) (fun _ h => h) O_148 rfl (Nat.le_of_ble_eq_true rfl) (Nat.le_of_ble_eq_true rfl) rfl (c_Mod_cells) rfl ?_
      refine Wk.icmp_ge (off := (24)) (t := 31) (q := 10) (by decide +kernel) (by decide) rfl (by first | omega | exact bi_rng _) (by first | omega | exact bi_rng _) (fun hc7 => ?_) (fun hc7 => ?_)
      · refine Wk.iconst (n := (-1)) (q := 32) (by decide +kernel) rfl ?_
        exact Wk.riP (by decide +kernel) rfl (⟨⟨_, rfl, Or.inl ⟨rfl, hJ⟩⟩, rfl, rfl⟩)
      · omega
    · intro k _ k0 k1 hJ ih
      refine Wk.iload_n (k := 2) (q := 3) (by decide +kernel) rfl rfl rfl ?_
      refine Wk.aload_n (k := 0) (q := 4) (by decide +kernel) rfl rfl rfl ?_
      refine Wk.cVi (q := 7) l_Mod_97 m_Mod_cells (by decide +kernel) (fun _ h => h) O_148 rfl (Nat.le_of_ble_eq_true rfl) (Nat.le_of_ble_eq_true rfl) rfl (c_Mod_cells) rfl ?_
      refine Wk.icmp_ge (off := (24)) (t := 31) (q := 10) (by decide +kernel) (by decide) rfl (by first | omega | exact bi_rng _) (by first | omega | exact bi_rng _) (fun hc7 => ?_) (fun hc7 => ?_)
      · omega
      · refine Wk.aload_n (k := 0) (q := 11) (by decide +kernel) rfl rfl rfl ?_
        refine Wk.iload_n (k := 1) (q := 12) (by decide +kernel) rfl rfl rfl ?_
        refine Wk.cSi (q := 15) l_Mod_100 m_Mod_waitAt (by decide +kernel) (fun _ h => h) (Nat.le_of_ble_eq_true rfl) (Nat.le_of_ble_eq_true rfl) rfl (c_Mod_waitAt) rfl ?_
        refine Wk.iload_n (k := 2) (q := 16) (by decide +kernel) rfl rfl rfl ?_
        refine Wk.iconst (n := 0) (q := 17) (by decide +kernel) rfl ?_
        refine Wk.cVi (q := 20) l_Mod_103 m_Mod_isFree (by decide +kernel) (fun _ h => h) O_148 rfl (Nat.le_of_ble_eq_true rfl) (Nat.le_of_ble_eq_true rfl) rfl (c_Mod_isFree hM (hQ q h0 h1) ⟨k0, k1⟩ (by omega)) rfl ?_
        refine Wk.ifB_eq (off := (5)) (t := 25) (q := 23) (by decide +kernel) (by decide) rfl (fun hc20 => ?_) (fun hc20 => ?_)
        · refine Wk.iinc (i := 2) (n := 1) (q := 28) (by decide +kernel) rfl (by decide) rfl (fun _ h => h) rfl ?_
          refine Wk.goto (off := (-26)) (q := 2) (by decide +kernel) (by decide) ?_
          exact ih () (ext1 hJ (hc20))
        · refine Wk.iload_n (k := 2) (q := 24) (by decide +kernel) rfl rfl rfl ?_
          exact Wk.riP (by decide +kernel) rfl (⟨⟨_, rfl, Or.inr ⟨by omega, hc20, hJ⟩⟩, rfl, rfl⟩)
  refine Wk.iconst (n := 0) (q := 1) (by decide +kernel) rfl ?_
  refine Wk.istore_n (k := 2) (q := 2) (by decide +kernel) rfl (by decide) rfl (fun _ h => h) rfl ?_
  exact key
/-- the book -/
def MBk (I : IM) : Prop := (0 ≤ I 148 7 ∧ I 148 7 ≤ 20) ∧ ∀ k, 0 ≤ k → k < I 148 7 → (0 ≤ I 151 k ∧ I 151 k ≤ 4) ∧ -2147483648 ≤ I 152 k ∧ I 152 k ≤ 2147483647
theorem c_Mod_wrongEntry (hM : MW I) (hB : MBk I) : Wk xs x_Mod_wrongEntry (d + 2) 0 0 0 [some (vr 148), none] [] X2 I L (p2 fun v I' L' => (∃ z, v = some (vi z) ∧ Fst (fun k => ¬ (0 ≤ I 151 k ∧ I 151 k < I 149 4) ∨ ¬ I 149 (55 + 4 * I 151 k + 3) = I 152 k) (I 148 7) z) ∧ I' = I ∧ L' = L) := by
  obtain ⟨hI, hS, hQ⟩ := id hM
  obtain ⟨hW, hH, hT, hF, hA, hK, hD⟩ := id hI
  have h49 := WH49 (W := I 149 0) (H := I 149 1) (by omega) (by omega)
  obtain ⟨hB0, hB1⟩ := id hB
  have key : Wk xs x_Mod_wrongEntry (d + 2) 0 0 2 [some (vr 148), some (vi 0)] [] X2 I L (p2 fun v I' L' => (∃ z, v = some (vi z) ∧ Fst (fun k => ¬ (0 ≤ I 151 k ∧ I 151 k < I 149 4) ∨ ¬ I 149 (55 + 4 * I 151 k + 3) = I 152 k) (I 148 7) z) ∧ I' = I ∧ L' = L) := by
    refine loopS (σ := Unit) (fun k _ => Wk xs x_Mod_wrongEntry (d + 2) 0 0 2 [some (vr 148), some (vi k)] [] X2 I L (p2 fun v I' L' => (∃ z, v = some (vi z) ∧ Fst (fun k => ¬ (0 ≤ I 151 k ∧ I 151 k < I 149 4) ∨ ¬ I 149 (55 + 4 * I 151 k + 3) = I 152 k) (I 148 7) z) ∧ I' = I ∧ L' = L)) (fun j _ => ∀ k, 0 ≤ k → k < j → ¬ (fun k => ¬ (0 ≤ I 151 k ∧ I 151 k < I 149 4) ∨ ¬ I 149 (55 + 4 * I 151 k + 3) = I 152 k) k) (I 148 7) 0 () (by omega) (fun k k0 k1 => by omega) ?_ ?_
    · intro _ hJ
      refine Wk.iload_n (k := 1) (q := 3) (by decide +kernel) rfl rfl rfl ?_
      refine Wk.aload_n (k := 0) (q := 4) (by decide +kernel) rfl rfl rfl ?_
      refine Wk.getI (z := 7) (q := 7) f_Mod_131 (by decide +kernel) O_148 (by decide) rfl rfl rfl ?_
      refine Wk.icmp_ge (off := (49)) (t := 56) (q := 10) (by decide +kernel) (by decide) rfl (by first | omega | exact bi_rng _) (by first | omega | exact bi_rng _) (fun hc7 => ?_) (fun hc7 => ?_)
      · refine Wk.iconst (n := (-1)) (q := 57) (by decide +kernel) rfl ?_
        exact Wk.riP (by decide +kernel) rfl (⟨⟨_, rfl, Or.inl ⟨rfl, hJ⟩⟩, rfl, rfl⟩)
      · omega
    · intro k _ k0 k1 hJ ih
      obtain ⟨hb1, hb2⟩ := hB1 k k0 k1
      have hcell : 0 ≤ I 151 k ∧ I 151 k < I 149 4 → 0 ≤ I 149 (55 + 4 * I 151 k + 3) ∧ I 149 (55 + 4 * I 151 k + 3) < I 149 0 * I 149 1 := fun z => (hS _ z.1 z.2).2
      refine Wk.iload_n (k := 1) (q := 3) (by decide +kernel) rfl rfl rfl ?_
      refine Wk.aload_n (k := 0) (q := 4) (by decide +kernel) rfl rfl rfl ?_
      refine Wk.getI (z := 7) (q := 7) f_Mod_131 (by decide +kernel) O_148 (by decide) rfl rfl rfl ?_
      refine Wk.icmp_ge (off := (49)) (t := 56) (q := 10) (by decide +kernel) (by decide) rfl (by first | omega | exact bi_rng _) (by first | omega | exact bi_rng _) (fun hc7 => ?_) (fun hc7 => ?_)
      · omega
      · refine Wk.aload_n (k := 0) (q := 11) (by decide +kernel) rfl rfl rfl ?_
        refine Wk.aload_n (k := 0) (q := 12) (by decide +kernel) rfl rfl rfl ?_
        refine Wk.getR (r := 151) (q := 15) f_Mod_16 (by decide +kernel) O_148 (by decide) rfl rfl rfl ?_
        refine Wk.iload_n (k := 1) (q := 16) (by decide +kernel) rfl rfl rfl ?_
        refine Wk.iaload (q := 17) (by decide +kernel) A_151 (by first | omega | exact bi_rng _) (by first | omega | exact bi_rng _) rfl ?_
        refine Wk.cVi (q := 20) l_Mod_134 m_Mod_isShip (by decide +kernel) (fun _ h => h) O_148 rfl (Nat.le_of_ble_eq_true rfl) (Nat.le_of_ble_eq_true rfl) rfl (c_Mod_isShip (by omega) hI) rfl ?_
        refine Wk.ifB_eq (off := (28)) (t := 48) (q := 23) (by decide +kernel) (by decide) rfl (fun hc20 => ?_) (fun hc20 => ?_)
        · refine Wk.iload_n (k := 1) (q := 49) (by decide +kernel) rfl rfl rfl ?_
          exact Wk.riP (by decide +kernel) rfl (⟨⟨_, rfl, Or.inr ⟨by omega, (by first | exact Or.inl hc20 | exact Or.inr hc45), hJ⟩⟩, rfl, rfl⟩)
        · refine Wk.aload_n (k := 0) (q := 24) (by decide +kernel) rfl rfl rfl ?_
          refine Wk.getR (r := 149) (q := 27) f_Mod_7 (by decide +kernel) O_148 (by decide) rfl rfl rfl ?_
          refine Wk.aload_n (k := 0) (q := 28) (by decide +kernel) rfl rfl rfl ?_
          refine Wk.getR (r := 151) (q := 31) f_Mod_16 (by decide +kernel) O_148 (by decide) rfl rfl rfl ?_
          refine Wk.iload_n (k := 1) (q := 32) (by decide +kernel) rfl rfl rfl ?_
          refine Wk.iaload (q := 33) (by decide +kernel) A_151 (by first | omega | exact bi_rng _) (by first | omega | exact bi_rng _) rfl ?_
          refine Wk.cSi (q := 36) l_Mod_77 m_Mod_shipAt (by decide +kernel) (fun _ h => h) (Nat.le_of_ble_eq_true rfl) (Nat.le_of_ble_eq_true rfl) rfl (c_Mod_shipAt) rfl ?_
          refine Wk.iconst (n := 3) (q := 37) (by decide +kernel) rfl ?_
          refine Wk.iadd (q := 38) (by decide +kernel) rfl ?_
          refine Wk.iaload (q := 39) (by decide +kernel) A_149 (by first | omega | exact bi_rng _) (by first | omega | exact bi_rng _) rfl ?_
          refine Wk.aload_n (k := 0) (q := 40) (by decide +kernel) rfl rfl rfl ?_
          refine Wk.getR (r := 152) (q := 43) f_Mod_19 (by decide +kernel) O_148 (by decide) rfl rfl rfl ?_
          refine Wk.iload_n (k := 1) (q := 44) (by decide +kernel) rfl rfl rfl ?_
          refine Wk.iaload (q := 45) (by decide +kernel) A_152 (by first | omega | exact bi_rng _) (by first | omega | exact bi_rng _) rfl ?_
          refine Wk.icmp_eq (off := (5)) (t := 50) (q := 48) (by decide +kernel) (by decide) rfl (by first | omega | exact bi_rng _) (by first | omega | exact bi_rng _) (fun hc45 => ?_) (fun hc45 => ?_)
          · refine Wk.iinc (i := 1) (n := 1) (q := 53) (by decide +kernel) rfl (by decide) rfl (fun _ h => h) rfl ?_
            refine Wk.goto (off := (-51)) (q := 2) (by decide +kernel) (by decide) ?_
            exact ih () (ext1 hJ (fun z => z.elim (fun z => z hc20) (fun z => z hc45)))
          · refine Wk.iload_n (k := 1) (q := 49) (by decide +kernel) rfl rfl rfl ?_
            exact Wk.riP (by decide +kernel) rfl (⟨⟨_, rfl, Or.inr ⟨by omega, (by first | exact Or.inl hc20 | exact Or.inr hc45), hJ⟩⟩, rfl, rfl⟩)
  refine Wk.iconst (n := 0) (q := 1) (by decide +kernel) rfl ?_
  refine Wk.istore_n (k := 1) (q := 2) (by decide +kernel) rfl (by decide) rfl (fun _ h => h) rfl ?_
  exact key
theorem c_Mod_fitsBehind {n : Int} (h0 : 0 ≤ n) (h1 : n ≤ 2) (hM : MW I) (hR : ∀ k, 0 ≤ k → k ≤ n → MP I (I 154 k) ∧ mC I (I 153 k)) : Wk xs x_Mod_fitsBehind (d + 3) 0 0 0 [some (vr 148), some (vi n), none, none] [] X2 I L (pI (bi (∀ k, 0 ≤ k → k < n → ¬ mCL I (I 149 3) (I 154 k) (I 153 k) (I 154 n) (I 153 n))) I L) := by
  obtain ⟨hI, hS, hQ⟩ := id hM
  obtain ⟨hW, hH, hT, hF, hA, hK, hD⟩ := id hI
  have h49 := WH49 (W := I 149 0) (H := I 149 1) (by omega) (by omega)
  have key : Wk xs x_Mod_fitsBehind (d + 3) 0 0 4 [some (vr 148), some (vi n), some (vi (bi (∀ k, 0 ≤ k → k < 0 → ¬ mCL I (I 149 3) (I 154 k) (I 153 k) (I 154 n) (I 153 n)))), some (vi 0)] [] X2 I L (pI (bi (∀ k, 0 ≤ k → k < n → ¬ mCL I (I 149 3) (I 154 k) (I 153 k) (I 154 n) (I 153 n))) I L) := by
    refine loopI (fun j => Wk xs x_Mod_fitsBehind (d + 3) 0 0 4 [some (vr 148), some (vi n), some (vi (bi (∀ k, 0 ≤ k → k < j → ¬ mCL I (I 149 3) (I 154 k) (I 153 k) (I 154 n) (I 153 n)))), some (vi j)] [] X2 I L (pI (bi (∀ k, 0 ≤ k → k < n → ¬ mCL I (I 149 3) (I 154 k) (I 153 k) (I 154 n) (I 153 n))) I L)) n 0 (by omega) ?_ ?_
    · refine Wk.iload_n (k := 3) (q := 5) (by decide +kernel) rfl rfl rfl ?_
      refine Wk.iload_n (k := 1) (q := 6) (by decide +kernel) rfl rfl rfl ?_
      refine Wk.icmp_ge (off := (50)) (t := 56) (q := 9) (by decide +kernel) (by decide) rfl (by first | omega | exact bi_rng _) (by first | omega | exact bi_rng _) (fun hc6 => ?_) (fun hc6 => ?_)
      · refine Wk.iload_n (k := 2) (q := 57) (by decide +kernel) rfl rfl rfl ?_
        exact Wk.rZ (by decide +kernel) rfl (by first | omega | decide | exact bi_01 _) (rfl)
      · omega
    · intro j k0 k1 ih
      refine Wk.iload_n (k := 3) (q := 5) (by decide +kernel) rfl rfl rfl ?_
      refine Wk.iload_n (k := 1) (q := 6) (by decide +kernel) rfl rfl rfl ?_
      refine Wk.icmp_ge (off := (50)) (t := 56) (q := 9) (by decide +kernel) (by decide) rfl (by first | omega | exact bi_rng _) (by first | omega | exact bi_rng _) (fun hc6 => ?_) (fun hc6 => ?_)
      · omega
      · refine Wk.iload_n (k := 2) (q := 10) (by decide +kernel) rfl rfl rfl ?_
        refine Wk.ifB_eq (off := (38)) (t := 48) (q := 13) (by decide +kernel) (by decide) rfl (fun hc10 => ?_) (fun hc10 => ?_)
        · refine Wk.iconst (n := 0) (q := 49) (by decide +kernel) rfl ?_
          refine Wk.istore_n (k := 2) (q := 50) (by decide +kernel) rfl (by decide) rfl (fun _ h => h) rfl ?_
          refine Wk.iinc (i := 3) (n := 1) (q := 53) (by decide +kernel) rfl (by decide) rfl (fun _ h => h) rfl ?_
          refine Wk.goto (off := (-49)) (q := 4) (by decide +kernel) (by decide) ?_
          first
            | (rw [bi_t (ext1 hc10 hc41)] at ih
               exact ih)
            | (rw [bi_f (fun z => by first | exact hc10 (fun k q0 q1 => z k q0 (by omega)) | exact z j k0 (by omega) hc41)] at ih
               exact ih)
        · refine Wk.aload_n (k := 0) (q := 14) (by decide +kernel) rfl rfl rfl ?_
          refine Wk.aload_n (k := 0) (q := 15) (by decide +kernel) rfl rfl rfl ?_
          refine Wk.getR (r := 154) (q := 18) f_Mod_25 (by decide +kernel) O_148 (by decide) rfl rfl rfl ?_
          refine Wk.iload_n (k := 3) (q := 19) (by decide +kernel) rfl rfl rfl ?_
          refine Wk.iaload (q := 20) (by decide +kernel) A_154 (by first | omega | exact bi_rng _) (by first | omega | exact bi_rng _) rfl ?_
          refine Wk.aload_n (k := 0) (q := 21) (by decide +kernel) rfl rfl rfl ?_
          refine Wk.getR (r := 153) (q := 24) f_Mod_22 (by decide +kernel) O_148 (by decide) rfl rfl rfl ?_
          refine Wk.iload_n (k := 3) (q := 25) (by decide +kernel) rfl rfl rfl ?_
          refine Wk.iaload (q := 26) (by decide +kernel) A_153 (by first | omega | exact bi_rng _) (by first | omega | exact bi_rng _) rfl ?_
          refine Wk.aload_n (k := 0) (q := 27) (by decide +kernel) rfl rfl rfl ?_
          refine Wk.getR (r := 154) (q := 30) f_Mod_25 (by decide +kernel) O_148 (by decide) rfl rfl rfl ?_
          refine Wk.iload_n (k := 1) (q := 31) (by decide +kernel) rfl rfl rfl ?_
          refine Wk.iaload (q := 32) (by decide +kernel) A_154 (by first | omega | exact bi_rng _) (by first | omega | exact bi_rng _) rfl ?_
          refine Wk.aload_n (k := 0) (q := 33) (by decide +kernel) rfl rfl rfl ?_
          refine Wk.getR (r := 153) (q := 36) f_Mod_22 (by decide +kernel) O_148 (by decide) rfl rfl rfl ?_
          refine Wk.iload_n (k := 1) (q := 37) (by decide +kernel) rfl rfl rfl ?_
          refine Wk.iaload (q := 38) (by decide +kernel) A_153 (by first | omega | exact bi_rng _) (by first | omega | exact bi_rng _) rfl ?_
          refine Wk.cVi (q := 41) l_Mod_80 m_Mod_clash (by decide +kernel) (fun _ h => h) O_148 rfl (Nat.le_of_ble_eq_true rfl) (Nat.le_of_ble_eq_true rfl) rfl (c_Mod_clash hI (hR j k0 (by omega)).1 (hR j k0 (by omega)).2 (hR n h0 (by omega)).1 (hR n h0 (by omega)).2) rfl ?_
          refine Wk.ifB_ne (off := (7)) (t := 48) (q := 44) (by decide +kernel) (by decide) rfl (fun hc41 => ?_) (fun hc41 => ?_)
          · refine Wk.iconst (n := 0) (q := 49) (by decide +kernel) rfl ?_
            refine Wk.istore_n (k := 2) (q := 50) (by decide +kernel) rfl (by decide) rfl (fun _ h => h) rfl ?_
            refine Wk.iinc (i := 3) (n := 1) (q := 53) (by decide +kernel) rfl (by decide) rfl (fun _ h => h) rfl ?_
            refine Wk.goto (off := (-49)) (q := 4) (by decide +kernel) (by decide) ?_
            first
              | (rw [bi_t (ext1 hc10 hc41)] at ih
                 exact ih)
              | (rw [bi_f (fun z => by first | exact hc10 (fun k q0 q1 => z k q0 (by omega)) | exact z j k0 (by omega) hc41)] at ih
                 exact ih)
          · refine Wk.iconst (n := 1) (q := 45) (by decide +kernel) rfl ?_
            refine Wk.goto (off := (4)) (q := 49) (by decide +kernel) (by decide) ?_
            refine Wk.istore_n (k := 2) (q := 50) (by decide +kernel) rfl (by decide) rfl (fun _ h => h) rfl ?_
            refine Wk.iinc (i := 3) (n := 1) (q := 53) (by decide +kernel) rfl (by decide) rfl (fun _ h => h) rfl ?_
            refine Wk.goto (off := (-49)) (q := 4) (by decide +kernel) (by decide) ?_
            first
              | (rw [bi_t (ext1 hc10 hc41)] at ih
                 exact ih)
              | (rw [bi_f (fun z => by first | exact hc10 (fun k q0 q1 => z k q0 (by omega)) | exact z j k0 (by omega) hc41)] at ih
                 exact ih)
  refine Wk.iconst (n := 1) (q := 1) (by decide +kernel) rfl ?_
  refine Wk.istore_n (k := 2) (q := 2) (by decide +kernel) rfl (by decide) rfl (fun _ h => h) rfl ?_
  refine Wk.iconst (n := 0) (q := 3) (by decide +kernel) rfl ?_
  refine Wk.istore_n (k := 3) (q := 4) (by decide +kernel) rfl (by decide) rfl (fun _ h => h) rfl ?_
  rw [bi_t (p := (∀ k, 0 ≤ k → k < 0 → ¬ mCL I (I 149 3) (I 154 k) (I 153 k) (I 154 n) (I 153 n))) (fun k k0 k1 => by omega)] at key
  exact key
end MOD
