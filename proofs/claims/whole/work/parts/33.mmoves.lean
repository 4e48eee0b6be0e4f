/-! THE REFERENCE: places for all, moves -/
/-- candidates and clashes for ships by their slots; a slot's numbers begin at 55 + 4 s -/
abbrev zG (I : IM) (set : Int) (R : Int → Int) : Int → Int → Prop := fun i c => mC I c ∧ mFr I (55 + 4 * R i) set c
abbrev zK (I : IM) (R : Int → Int) : Int → Int → Int → Int → Prop := fun i c j e => mCL I (I 149 3) (55 + 4 * R i) c (55 + 4 * R j) e
def ZE (I : IM) (k set : Int) : Prop := ∃ R, MR (I 149 4) k set (nbit set 5) R ∧ Exr (zG I set R) (zK I R) (nbit set 5 + 1).toNat 0 (fun _ => 0)
theorem zG_eq {I' I : IM} (h : I' 149 = I 149) {m : Int} {R : Int → Int} : zG I' m R = zG I m R := by
  funext i c; unfold zG mC mFr mML mCL; rw [h]
theorem zK_eq {I' I : IM} (h : I' 149 = I 149) {R : Int → Int} : zK I' R = zK I R := by
  funext i c j e; unfold zK mCL; rw [h]
theorem ZE_eq {I' I : IM} (h : I' 149 = I 149) {k set : Int} : ZE I' k set ↔ ZE I k set := by
  unfold ZE
  constructor
  · rintro ⟨R, h1, h2⟩
    rw [zG_eq h, zK_eq h] at h2
    rw [h] at h1
    exact ⟨R, h1, h2⟩
  · rintro ⟨R, h1, h2⟩
    refine ⟨R, by rw [h]; exact h1, ?_⟩
    rw [zG_eq h, zK_eq h]
    exact h2
/-- all but what the tries write -/
def Kp (I' I : IM) : Prop := ∀ c b, ¬ c = 153 → ¬ c = 154 → ¬ c = 155 → ¬ (c = 148 ∧ b = 11) → I' c b = I c b
theorem Kp.w {I' I : IM} (h : Kp I' I) : I' 149 = I 149 := funext fun b => h 149 b (by decide) (by decide) (by decide) (fun z => absurd z.1 (by decide))
theorem Kp.trans {I'' I' I : IM} (h : Kp I'' I') (g : Kp I' I) : Kp I'' I := fun c b h1 h2 h3 h4 => (h c b h1 h2 h3 h4).trans (g c b h1 h2 h3 h4)
theorem Kp.of154 {I' I : IM} (h : Ex1 154 I' I) : Kp I' I := fun c b _ h2 _ _ => by rw [h c h2]
theorem Kp.ofRows {I' I : IM} (h : ∀ k, ¬ k = 153 → ¬ k = 155 → I' k = I k) : Kp I' I := fun c b h1 _ h3 _ => by rw [h c h1 h3]
theorem Kp.moved (I : IM) (v : Int) : Kp (iup I 148 11 v) I := fun c b _ _ _ h => iup_ne h
theorem Kp.refl (I : IM) : Kp I I := fun _ _ _ _ _ _ => rfl
theorem slotMP {I : IM} (hM : MW I) {s : Int} (h : (0 ≤ s ∧ s < I 149 4) ∨ (5 ≤ s ∧ s < 5 + I 149 5)) : MP I (55 + 4 * s) := by
  rcases h with h | h
  · exact (hM.2.1 s h.1 h.2).1
  · have := hM.2.2 (s - 5) (by omega) (by omega)
    rw [show 75 + 4 * (s - 5) = 55 + 4 * s by omega] at this
    exact this
section MOH
variable {xs : RO} {d : Nat} {I : IM} {L : LM}

theorem c_Mod_placesForAll (hM : MW I) : Wk xs x_Mod_placesForAll (d + 8) 0 0 0 [some (vr 148), none] [] X2 I L (p2 fun v I' L' => ((v = some (vi 1) ∧ Lea (zG I 0 (fun i => 5 + i)) (zK I (fun i => 5 + i)) (I 149 5).toNat 0 (I' 153)) ∨ (v = some (vi 0) ∧ ¬ Exr (zG I 0 (fun i => 5 + i)) (zK I (fun i => 5 + i)) (I 149 5).toNat 0 (fun _ => 0))) ∧ Kp I' I ∧ L' = L) := by
  obtain ⟨hI, hS, hQ⟩ := id hM
  obtain ⟨hW, hH, hT, hF, hA, hK, hD⟩ := id hI
  have h49 := WH49 (W := I 149 0) (H := I 149 1) (by omega) (by omega)
  have key : Wk xs x_Mod_placesForAll (d + 8) 0 0 2 [some (vr 148), some (vi 0)] [] X2 I L (p2 fun v I' L' => ((v = some (vi 1) ∧ Lea (zG I 0 (fun i => 5 + i)) (zK I (fun i => 5 + i)) (I 149 5).toNat 0 (I' 153)) ∨ (v = some (vi 0) ∧ ¬ Exr (zG I 0 (fun i => 5 + i)) (zK I (fun i => 5 + i)) (I 149 5).toNat 0 (fun _ => 0))) ∧ Kp I' I ∧ L' = L) := by
    refine loopS (σ := IM) (fun k I2 => Wk xs x_Mod_placesForAll (d + 8) 0 0 2 [some (vr 148), some (vi k)] [] X2 I2 L (p2 fun v I' L' => ((v = some (vi 1) ∧ Lea (zG I 0 (fun i => 5 + i)) (zK I (fun i => 5 + i)) (I 149 5).toNat 0 (I' 153)) ∨ (v = some (vi 0) ∧ ¬ Exr (zG I 0 (fun i => 5 + i)) (zK I (fun i => 5 + i)) (I 149 5).toNat 0 (fun _ => 0))) ∧ Kp I' I ∧ L' = L)) (fun k I2 => Ex1 154 I2 I ∧ ∀ j, 0 ≤ j → j < k → I2 154 j = 75 + 4 * j) (I 149 5) 0 I (by omega) ⟨fun _ _ => rfl, fun j j0 j1 => by omega⟩ ?_ ?_
    · intro I2 hJ
      obtain ⟨j1, j2⟩ := hJ
      have e1 := j1 149 (by decide)
      have hG : ∀ i s, 0 ≤ i → i < I 149 5 → (uG I2 0 i s ↔ zG I 0 (fun i => 5 + i) i s) := fun i s i0 i1 => by
        unfold uG zG
        rw [mC_eq e1, mFr_eq e1, j2 i i0 i1, show 55 + 4 * (5 + i) = 75 + 4 * i by omega]
      have hK2 : ∀ i s j t, 0 ≤ i → i < I 149 5 → 0 ≤ j → j < I 149 5 → (uK I2 i s j t ↔ zK I (fun i => 5 + i) i s j t) := fun i s j t i0 i1 m0 m1 => by
        unfold uK zK
        rw [mCL_eq e1, j2 i i0 i1, j2 j m0 m1, show 55 + 4 * (5 + i) = 75 + 4 * i by omega, show 55 + 4 * (5 + j) = 75 + 4 * j by omega, e1]
      refine Wk.iload_n (k := 1) (q := 3) (by decide +kernel) rfl rfl rfl ?_
      refine Wk.aload_n (k := 0) (q := 4) (by decide +kernel) rfl rfl rfl ?_
      refine Wk.getR (r := 149) (q := 7) f_Mod_7 (by decide +kernel) O_148 (by decide) rfl rfl rfl ?_
      refine Wk.iconst (n := 5) (q := 8) (by decide +kernel) rfl ?_
      refine Wk.iaload (q := 9) (by decide +kernel) A_149 (by first | omega | exact bi_rng _) (by first | omega | exact bi_rng _) rfl ?_
      rw [e1]
      refine Wk.icmp_ge (off := (19)) (t := 28) (q := 12) (by decide +kernel) (by decide) rfl (by first | omega | exact bi_rng _) (by first | omega | exact bi_rng _) (fun hc9 => ?_) (fun hc9 => ?_)
      · refine Wk.aload_n (k := 0) (q := 29) (by decide +kernel) rfl rfl rfl ?_
        refine Wk.aload_n (k := 0) (q := 30) (by decide +kernel) rfl rfl rfl ?_
        refine Wk.getR (r := 149) (q := 33) f_Mod_7 (by decide +kernel) O_148 (by decide) rfl rfl rfl ?_
        refine Wk.iconst (n := 5) (q := 34) (by decide +kernel) rfl ?_
        refine Wk.iaload (q := 35) (by decide +kernel) A_149 (by first | omega | exact bi_rng _) (by first | omega | exact bi_rng _) rfl ?_
        rw [e1]
        refine Wk.iconst (n := 0) (q := 36) (by decide +kernel) rfl ?_
        refine Wk.cV (q := 39) l_Mod_112 m_Mod_tryRows (by decide +kernel) (fun _ h => h) O_148 rfl (Nat.le_of_ble_eq_true rfl) (Nat.le_of_ble_eq_true rfl) rfl (c_Mod_tryRows hK.1 hK.2 ((MW_eq e1).mpr hM) (by omega) (fun k k0 k1 => (MP_eq e1).mpr (by rw [j2 k k0 k1]; exact hQ k k0 k1))) rfl (fun v I3 L3 hP => ?_)
        obtain ⟨hv, q1, rfl⟩ := hP
        have hfin : ((v = some (vi 1) ∧ Lea (zG I 0 (fun i => 5 + i)) (zK I (fun i => 5 + i)) (I 149 5).toNat 0 (I3 153)) ∨ (v = some (vi 0) ∧ ¬ Exr (zG I 0 (fun i => 5 + i)) (zK I (fun i => 5 + i)) (I 149 5).toNat 0 (fun _ => 0))) := by
          rcases hv with ⟨rfl, hv⟩ | ⟨rfl, hv⟩
          · exact Or.inl ⟨rfl, Lea_cong hG hK2 _ 0 _ _ (by omega) (by omega) (fun _ _ _ => rfl) hv⟩
          · exact Or.inr ⟨rfl, fun z => hv ((Exr_cong hG hK2 _ 0 _ _ (by omega) (by omega) (fun _ _ _ => rfl)).mpr z)⟩
        obtain ⟨z, hz, hz2⟩ : ∃ z : Int, (z = 0 ∨ z = 1) ∧ v = some (vi z) := by
          rcases hv with ⟨rfl, -⟩ | ⟨rfl, -⟩
          · exact ⟨1, Or.inr rfl, rfl⟩
          · exact ⟨0, Or.inl rfl, rfl⟩
        subst hz2
        exact Wk.rzP (by decide +kernel) rfl (by first | omega | decide | exact bi_01 _) (⟨hfin, (Kp.ofRows q1).trans (Kp.of154 j1), rfl⟩)
      · omega
    · intro k I2 k0 k1 hJ ih
      obtain ⟨j1, j2⟩ := hJ
      have e1 := j1 149 (by decide)
      refine Wk.iload_n (k := 1) (q := 3) (by decide +kernel) rfl rfl rfl ?_
      refine Wk.aload_n (k := 0) (q := 4) (by decide +kernel) rfl rfl rfl ?_
      refine Wk.getR (r := 149) (q := 7) f_Mod_7 (by decide +kernel) O_148 (by decide) rfl rfl rfl ?_
      refine Wk.iconst (n := 5) (q := 8) (by decide +kernel) rfl ?_
      refine Wk.iaload (q := 9) (by decide +kernel) A_149 (by first | omega | exact bi_rng _) (by first | omega | exact bi_rng _) rfl ?_
      rw [e1]
      refine Wk.icmp_ge (off := (19)) (t := 28) (q := 12) (by decide +kernel) (by decide) rfl (by first | omega | exact bi_rng _) (by first | omega | exact bi_rng _) (fun hc9 => ?_) (fun hc9 => ?_)
      · omega
      · refine Wk.aload_n (k := 0) (q := 13) (by decide +kernel) rfl rfl rfl ?_
        refine Wk.getR (r := 154) (q := 16) f_Mod_25 (by decide +kernel) O_148 (by decide) rfl rfl rfl ?_
        refine Wk.iload_n (k := 1) (q := 17) (by decide +kernel) rfl rfl rfl ?_
        refine Wk.iload_n (k := 1) (q := 18) (by decide +kernel) rfl rfl rfl ?_
        refine Wk.cSi (q := 21) l_Mod_100 m_Mod_waitAt (by decide +kernel) (fun _ h => h) (Nat.le_of_ble_eq_true rfl) (Nat.le_of_ble_eq_true rfl) rfl (c_Mod_waitAt) rfl ?_
        refine Wk.iastore (q := 22) (by decide +kernel) A_154 (by first | omega | exact bi_rng _) (by first | omega | exact bi_rng _) rfl ?_
        refine Wk.iinc (i := 1) (n := 1) (q := 25) (by decide +kernel) rfl (by decide) rfl (fun _ h => h) rfl ?_
        refine Wk.goto (off := (-23)) (q := 2) (by decide +kernel) (by decide) ?_
        exact ih _ ⟨j1.up _ _, fun j j0 j1' => by
          rcases Classical.em (j = k) with e | e
          · rw [e, iup_at]
          · rw [iup_ne (fun z => e z.2)]; exact j2 j j0 (by omega)⟩
  refine Wk.iconst (n := 0) (q := 1) (by decide +kernel) rfl ?_
  refine Wk.istore_n (k := 1) (q := 2) (by decide +kernel) rfl (by decide) rfl (fun _ h => h) rfl ?_
  exact key
theorem c_Mod_tryMoved {k set : Int} (k0 : 0 ≤ k) (k1 : k < I 149 5) (hM : MW I) (s0 : 0 ≤ set) (s1 : set < (2 ^ (I 149 4).toNat : Nat)) (s2 : nbit set 5 ≤ 2) : Wk xs x_Mod_tryMoved (d + 8) 0 0 0 [some (vr 148), some (vi k), some (vi set), none, none] [] X2 I L (p2 fun v I' L' => ((v = some (vi 1) ∧ ∃ R, MR (I 149 4) k set (nbit set 5) R ∧ Lea (zG I set R) (zK I R) (nbit set 5 + 1).toNat 0 (I' 153)) ∨ (v = some (vi 0) ∧ ¬ ZE I k set)) ∧ Kp I' I ∧ L' = L) := by
  obtain ⟨hI, hS, hQ⟩ := id hM
  obtain ⟨hW, hH, hT, hF, hA, hK, hD⟩ := id hI
  have h49 := WH49 (W := I 149 0) (H := I 149 1) (by omega) (by omega)
  have hp5 : 2 ^ (I 149 4).toNat ≤ 2 ^ 5 := Nat.pow_le_pow_right (by decide) (by omega)
  have hna := nbit_hi s0 s1 hA.1 hA.2
  have hb0 := nbit_mono (set := set) (a := 0) (b := 5) (by omega) (by omega)
  rw [nbit_0] at hb0
  have key : ∀ I1 : IM, Ex1 154 I1 I → I1 154 0 = 75 + 4 * k → Wk xs x_Mod_tryMoved (d + 8) 0 0 15 [some (vr 148), some (vi k), some (vi set), some (vi (1 + nbit set 0)), some (vi 0)] [] X2 I1 L (p2 fun v I' L' => ((v = some (vi 1) ∧ ∃ R, MR (I 149 4) k set (nbit set 5) R ∧ Lea (zG I set R) (zK I R) (nbit set 5 + 1).toNat 0 (I' 153)) ∨ (v = some (vi 0) ∧ ¬ ZE I k set)) ∧ Kp I' I ∧ L' = L) := by
    intro I1 hI1 e3
    refine loopS (σ := IM) (fun a I2 => Wk xs x_Mod_tryMoved (d + 8) 0 0 15 [some (vr 148), some (vi k), some (vi set), some (vi (1 + nbit set a)), some (vi a)] [] X2 I2 L (p2 fun v I' L' => ((v = some (vi 1) ∧ ∃ R, MR (I 149 4) k set (nbit set 5) R ∧ Lea (zG I set R) (zK I R) (nbit set 5 + 1).toNat 0 (I' 153)) ∨ (v = some (vi 0) ∧ ¬ ZE I k set)) ∧ Kp I' I ∧ L' = L)) (fun a I2 => Ex1 154 I2 I ∧ ∃ R, MR a k set (nbit set a) R ∧ ∀ i, 0 ≤ i → i ≤ nbit set a → I2 154 i = 55 + 4 * R i) (I 149 4) 0 I1 (by omega) ⟨hI1, fun _ => 5 + k, ⟨rfl, fun i i0 i1 => by rw [nbit_0] at i1; omega, fun i j i0 i1 i2 => by rw [nbit_0] at i2; omega, fun a a0 a1 => by omega⟩, fun i i0 i1 => by rw [nbit_0] at i1; rw [show i = 0 by omega, e3]; show 75 + 4 * k = 55 + 4 * (5 + k); omega⟩ ?_ ?_
    · intro I2 hJ
      obtain ⟨j1, R, j2, j3⟩ := hJ
      have e1 := j1 149 (by decide)
      rw [← hna] at j2 j3
      have hG : ∀ i s, 0 ≤ i → i < nbit set 5 + 1 → (uG I2 set i s ↔ zG I set R i s) := fun i s i0 i1 => by
        unfold uG zG
        rw [mC_eq e1, mFr_eq e1, j3 i i0 (by omega)]
      have hK2 : ∀ i s j t, 0 ≤ i → i < nbit set 5 + 1 → 0 ≤ j → j < nbit set 5 + 1 → (uK I2 i s j t ↔ zK I R i s j t) := fun i s j t i0 i1 m0 m1 => by
        unfold uK zK
        rw [mCL_eq e1, j3 i i0 (by omega), j3 j m0 (by omega), e1]
      rw [← hna]
      refine Wk.iload (i := 4) (q := 17) (by decide +kernel) rfl rfl ?_
      refine Wk.aload_n (k := 0) (q := 18) (by decide +kernel) rfl rfl rfl ?_
      refine Wk.getR (r := 149) (q := 21) f_Mod_7 (by decide +kernel) O_148 (by decide) rfl rfl rfl ?_
      refine Wk.iconst (n := 4) (q := 22) (by decide +kernel) rfl ?_
      refine Wk.iaload (q := 23) (by decide +kernel) A_149 (by first | omega | exact bi_rng _) (by first | omega | exact bi_rng _) rfl ?_
      rw [e1]
      refine Wk.icmp_ge (off := (32)) (t := 55) (q := 26) (by decide +kernel) (by decide) rfl (by first | omega | exact bi_rng _) (by first | omega | exact bi_rng _) (fun hc23 => ?_) (fun hc23 => ?_)
      · refine Wk.aload_n (k := 0) (q := 56) (by decide +kernel) rfl rfl rfl ?_
        refine Wk.iload_n (k := 3) (q := 57) (by decide +kernel) rfl rfl rfl ?_
        refine Wk.iload_n (k := 2) (q := 58) (by decide +kernel) rfl rfl rfl ?_
        refine Wk.cV (q := 61) l_Mod_112 m_Mod_tryRows (by decide +kernel) (fun _ h => h) O_148 rfl (Nat.le_of_ble_eq_true rfl) (Nat.le_of_ble_eq_true rfl) rfl (c_Mod_tryRows (by omega) (by omega) ((MW_eq e1).mpr hM) (by omega) (fun i i0 i1 => (MP_eq e1).mpr (by
        rw [j3 i i0 (by omega)]
        refine slotMP hM ?_
        by_cases hi : i = 0
        · rw [hi, j2.1]; right; omega
        · left; exact (j2.2.1 i (by omega) (by omega)).1))) rfl (fun v I3 L3 hP => ?_)
        obtain ⟨hv, q1, rfl⟩ := hP
        rw [show 1 + nbit set 5 = nbit set 5 + 1 by omega] at hv
        have hfin : ((v = some (vi 1) ∧ ∃ R, MR (I 149 4) k set (nbit set 5) R ∧ Lea (zG I set R) (zK I R) (nbit set 5 + 1).toNat 0 (I3 153)) ∨ (v = some (vi 0) ∧ ¬ ZE I k set)) := by
          rcases hv with ⟨rfl, hv⟩ | ⟨rfl, hv⟩
          · exact Or.inl ⟨rfl, R, j2, Lea_cong hG hK2 _ 0 _ _ (by omega) (by omega) (fun _ _ _ => rfl) hv⟩
          · refine Or.inr ⟨rfl, fun ⟨R2, hR1, hR2⟩ => hv ((Exr_cong hG hK2 _ 0 _ _ (by omega) (by omega) (fun _ _ _ => rfl)).mpr ?_)⟩
            have hu := MR_uniq hR1 j2
            refine (Exr_cong (N := nbit set 5 + 1) (fun i s i0 i1 => ?_) (fun i s j t i0 i1 m0 m1 => ?_) _ 0 _ _ (by omega) (by omega) (fun _ _ _ => rfl)).mp hR2
            · unfold zG
              rw [hu i i0 (by omega)]
            · unfold zK
              rw [hu i i0 (by omega), hu j m0 (by omega)]
        obtain ⟨z, hz, hz2⟩ : ∃ z : Int, (z = 0 ∨ z = 1) ∧ v = some (vi z) := by
          rcases hv with ⟨rfl, -⟩ | ⟨rfl, -⟩
          · exact ⟨1, Or.inr rfl, rfl⟩
          · exact ⟨0, Or.inl rfl, rfl⟩
        subst hz2
        exact Wk.rzP (by decide +kernel) rfl (by first | omega | decide | exact bi_01 _) (⟨hfin, (Kp.ofRows q1).trans (Kp.of154 j1), rfl⟩)
      · omega
    · intro a I2 a0 a1 hJ ih
      obtain ⟨j1, R, j4, j3⟩ := hJ
      have e1 := j1 149 (by decide)
      have hm1 := nbit_mono (set := set) (a := a) (b := 5) a0 (by omega)
      have hm2 := nbit_mono (set := set) (a := a + 1) (b := 5) (by omega) (by omega)
      have hm0 := nbit_mono (set := set) (a := 0) (b := a) (by omega) (by omega)
      rw [nbit_0] at hm0
      have hst := nbit_step (set := set) a0
      refine Wk.iload (i := 4) (q := 17) (by decide +kernel) rfl rfl ?_
      refine Wk.aload_n (k := 0) (q := 18) (by decide +kernel) rfl rfl rfl ?_
      refine Wk.getR (r := 149) (q := 21) f_Mod_7 (by decide +kernel) O_148 (by decide) rfl rfl rfl ?_
      refine Wk.iconst (n := 4) (q := 22) (by decide +kernel) rfl ?_
      refine Wk.iaload (q := 23) (by decide +kernel) A_149 (by first | omega | exact bi_rng _) (by first | omega | exact bi_rng _) rfl ?_
      rw [e1]
      refine Wk.icmp_ge (off := (32)) (t := 55) (q := 26) (by decide +kernel) (by decide) rfl (by first | omega | exact bi_rng _) (by first | omega | exact bi_rng _) (fun hc23 => ?_) (fun hc23 => ?_)
      · omega
      · refine Wk.iload_n (k := 2) (q := 27) (by decide +kernel) rfl rfl rfl ?_
        refine Wk.iload (i := 4) (q := 29) (by decide +kernel) rfl rfl ?_
        refine Wk.cSi (q := 32) l_Mod_58 m_Mod_has (by decide +kernel) (fun _ h => h) (Nat.le_of_ble_eq_true rfl) (Nat.le_of_ble_eq_true rfl) rfl (c_Mod_has (by omega) (by omega) (by omega) (by omega)) rfl ?_
        refine Wk.ifB_eq (off := (17)) (t := 49) (q := 35) (by decide +kernel) (by decide) rfl (fun hc32 => ?_) (fun hc32 => ?_)
        · refine Wk.iinc (i := 4) (n := 1) (q := 52) (by decide +kernel) rfl (by decide) rfl (fun _ h => h) rfl ?_
          refine Wk.goto (off := (-37)) (q := 15) (by decide +kernel) (by decide) ?_
          first
            | (rw [bi_f hc32, Int.add_zero] at hst
               rw [hst] at ih
               refine ih _ ⟨j1, R, ⟨j4.1, fun i i0 i1 => by have := j4.2.1 i i0 i1; exact ⟨by omega, this.2⟩, j4.2.2.1, fun b b0 b1 hb => by
                 by_cases hba : b = a
                 · rw [hba] at hb; exact absurd hb hc32
                 · exact j4.2.2.2 b b0 (by omega) hb⟩, j3⟩)
            | (rw [bi_t hc32] at hst
               rw [hst] at ih
               rw [show 1 + nbit set a + 1 = 1 + (nbit set a + 1) by omega]
               have hg : ∀ i, ¬ i = nbit set a + 1 → cset R (nbit set a + 1) a i = R i := fun i hi => cset_ne hi
               have hg2 : cset R (nbit set a + 1) a (nbit set a + 1) = a := cset_eq _ _ _
               refine ih _ ⟨j1.up _ _, cset R (nbit set a + 1) a, ⟨by rw [hg 0 (by omega)]; exact j4.1, fun i i0 i1 => ?_, fun i j i0 i1 i2 => ?_, fun b b0 b1 hb => ?_⟩, fun i i0 i1 => ?_⟩
               · by_cases hi : i = nbit set a + 1
                 · rw [hi, hg2]; exact ⟨by omega, hc32⟩
                 · rw [hg i (by omega)]
                   have := j4.2.1 i i0 (by omega)
                   exact ⟨by omega, this.2⟩
               · by_cases hj : j = nbit set a + 1
                 · rw [hj, hg2, hg i (by omega)]
                   have := (j4.2.1 i i0 (by omega)).1
                   omega
                 · rw [hg i (by omega), hg j (by omega)]
                   exact j4.2.2.1 i j i0 i1 (by omega)
               · by_cases hba : b = a
                 · exact ⟨nbit set a + 1, by omega, by omega, by rw [hg2, hba]⟩
                 · obtain ⟨i, i0, i1, i2⟩ := j4.2.2.2 b b0 (by omega) hb
                   exact ⟨i, i0, by omega, by rw [hg i (by omega)]; exact i2⟩
               · by_cases hi : i = nbit set a + 1
                 · rw [hi, hg2, show nbit set a + 1 = 1 + nbit set a by omega, iup_at]
                 · rw [hg i hi, iup_ne (by omega)]
                   exact j3 i i0 (by omega))
        · have hst2 := hst
          rw [bi_t hc32] at hst2
          refine Wk.aload_n (k := 0) (q := 36) (by decide +kernel) rfl rfl rfl ?_
          refine Wk.getR (r := 154) (q := 39) f_Mod_25 (by decide +kernel) O_148 (by decide) rfl rfl rfl ?_
          refine Wk.iload_n (k := 3) (q := 40) (by decide +kernel) rfl rfl rfl ?_
          refine Wk.iload (i := 4) (q := 42) (by decide +kernel) rfl rfl ?_
          refine Wk.cSi (q := 45) l_Mod_77 m_Mod_shipAt (by decide +kernel) (fun _ h => h) (Nat.le_of_ble_eq_true rfl) (Nat.le_of_ble_eq_true rfl) rfl (c_Mod_shipAt) rfl ?_
          refine Wk.iastore (q := 46) (by decide +kernel) A_154 (by first | omega | exact bi_rng _) (by first | omega | exact bi_rng _) rfl ?_
          refine Wk.iinc (i := 3) (n := 1) (q := 49) (by decide +kernel) rfl (by decide) rfl (fun _ h => h) rfl ?_
          refine Wk.iinc (i := 4) (n := 1) (q := 52) (by decide +kernel) rfl (by decide) rfl (fun _ h => h) rfl ?_
          refine Wk.goto (off := (-37)) (q := 15) (by decide +kernel) (by decide) ?_
          first
            | (rw [bi_f hc32, Int.add_zero] at hst
               rw [hst] at ih
               refine ih _ ⟨j1, R, ⟨j4.1, fun i i0 i1 => by have := j4.2.1 i i0 i1; exact ⟨by omega, this.2⟩, j4.2.2.1, fun b b0 b1 hb => by
                 by_cases hba : b = a
                 · rw [hba] at hb; exact absurd hb hc32
                 · exact j4.2.2.2 b b0 (by omega) hb⟩, j3⟩)
            | (rw [bi_t hc32] at hst
               rw [hst] at ih
               rw [show 1 + nbit set a + 1 = 1 + (nbit set a + 1) by omega]
               have hg : ∀ i, ¬ i = nbit set a + 1 → cset R (nbit set a + 1) a i = R i := fun i hi => cset_ne hi
               have hg2 : cset R (nbit set a + 1) a (nbit set a + 1) = a := cset_eq _ _ _
               refine ih _ ⟨j1.up _ _, cset R (nbit set a + 1) a, ⟨by rw [hg 0 (by omega)]; exact j4.1, fun i i0 i1 => ?_, fun i j i0 i1 i2 => ?_, fun b b0 b1 hb => ?_⟩, fun i i0 i1 => ?_⟩
               · by_cases hi : i = nbit set a + 1
                 · rw [hi, hg2]; exact ⟨by omega, hc32⟩
                 · rw [hg i (by omega)]
                   have := j4.2.1 i i0 (by omega)
                   exact ⟨by omega, this.2⟩
               · by_cases hj : j = nbit set a + 1
                 · rw [hj, hg2, hg i (by omega)]
                   have := (j4.2.1 i i0 (by omega)).1
                   omega
                 · rw [hg i (by omega), hg j (by omega)]
                   exact j4.2.2.1 i j i0 i1 (by omega)
               · by_cases hba : b = a
                 · exact ⟨nbit set a + 1, by omega, by omega, by rw [hg2, hba]⟩
                 · obtain ⟨i, i0, i1, i2⟩ := j4.2.2.2 b b0 (by omega) hb
                   exact ⟨i, i0, by omega, by rw [hg i (by omega)]; exact i2⟩
               · by_cases hi : i = nbit set a + 1
                 · rw [hi, hg2, show nbit set a + 1 = 1 + nbit set a by omega, iup_at]
                 · rw [hg i hi, iup_ne (by omega)]
                   exact j3 i i0 (by omega))
  refine Wk.aload_n (k := 0) (q := 1) (by decide +kernel) rfl rfl rfl ?_
  refine Wk.getR (r := 154) (q := 4) f_Mod_25 (by decide +kernel) O_148 (by decide) rfl rfl rfl ?_
  refine Wk.iconst (n := 0) (q := 5) (by decide +kernel) rfl ?_
  refine Wk.iload_n (k := 1) (q := 6) (by decide +kernel) rfl rfl rfl ?_
  refine Wk.cSi (q := 9) l_Mod_100 m_Mod_waitAt (by decide +kernel) (fun _ h => h) (Nat.le_of_ble_eq_true rfl) (Nat.le_of_ble_eq_true rfl) rfl (c_Mod_waitAt) rfl ?_
  refine Wk.iastore (q := 10) (by decide +kernel) A_154 (by first | omega | exact bi_rng _) (by first | omega | exact bi_rng _) rfl ?_
  refine Wk.iconst (n := 1) (q := 11) (by decide +kernel) rfl ?_
  refine Wk.istore_n (k := 3) (q := 12) (by decide +kernel) rfl (by decide) rfl (fun _ h => h) rfl ?_
  refine Wk.iconst (n := 0) (q := 13) (by decide +kernel) rfl ?_
  refine Wk.istore (i := 4) (q := 15) (by decide +kernel) (by decide) rfl (fun _ h => h) rfl ?_
  exact key _ (Ex1.up (fun _ _ => rfl) _ _) (iup_at _ _ _ _)
def ZFound (I : IM) (k : Int) (I2 : IM) (set : Int) (R : Int → Int) : Prop := (0 ≤ set ∧ set < (2 ^ (I 149 4).toNat : Nat)) ∧ nbit set 5 ≤ 2 ∧ MR (I 149 4) k set (nbit set 5) R ∧ Lea (zG I set R) (zK I R) (nbit set 5 + 1).toNat 0 (I2 153) ∧ I2 148 11 = set ∧ ∀ set2, 0 ≤ set2 → set2 < (2 ^ (I 149 4).toNat : Nat) → (nbit set2 5 < nbit set 5 ∨ (nbit set2 5 = nbit set 5 ∧ set2 < set)) → ¬ ZE I k set2
def ZNone (I : IM) (k : Int) : Prop := ∀ set, 0 ≤ set → set < (2 ^ (I 149 4).toNat : Nat) → nbit set 5 ≤ 2 → ¬ ZE I k set
theorem c_Mod_layMoves {k : Int} (k0 : 0 ≤ k) (k1 : k < I 149 5) (hM : MW I) : Wk xs x_Mod_layMoves (d + 9) 0 0 0 [some (vr 148), some (vi k), none, none] [] X2 I L (p2 fun v I' L' => ((∃ set R, v = some (vi (nbit set 5)) ∧ ZFound I k I' set R) ∨ (v = some (vi (-1)) ∧ ZNone I k)) ∧ Kp I' I ∧ L' = L) := by
  obtain ⟨hI, hS, hQ⟩ := id hM
  obtain ⟨hW, hH, hT, hF, hA, hK, hD⟩ := id hI
  have h49 := WH49 (W := I 149 0) (H := I 149 1) (by omega) (by omega)
  have hp5 : 2 ^ (I 149 4).toNat ≤ 2 ^ 5 := Nat.pow_le_pow_right (by decide) (by omega)
  have hp0 := Nat.two_pow_pos (I 149 4).toNat
  have hsh := shl_one (k := I 149 4) (by omega) (by omega)
  have keyC : Wk xs x_Mod_layMoves (d + 9) 0 0 2 [some (vr 148), some (vi k), some (vi 0), none] [] X2 I L (p2 fun v I' L' => ((∃ set R, v = some (vi (nbit set 5)) ∧ ZFound I k I' set R) ∨ (v = some (vi (-1)) ∧ ZNone I k)) ∧ Kp I' I ∧ L' = L) := by
    refine loopS2 (σ := IM) (τ := Option AV) (fun c I2 o4 => Wk xs x_Mod_layMoves (d + 9) 0 0 2 [some (vr 148), some (vi k), some (vi c), o4] [] X2 I2 L (p2 fun v I' L' => ((∃ set R, v = some (vi (nbit set 5)) ∧ ZFound I k I' set R) ∨ (v = some (vi (-1)) ∧ ZNone I k)) ∧ Kp I' I ∧ L' = L)) (fun c I2 _ => Kp I2 I ∧ ∀ set, 0 ≤ set → set < (2 ^ (I 149 4).toNat : Nat) → nbit set 5 < c → ¬ ZE I k set) 3 0 I none (by omega) ⟨Kp.refl I, fun set _ _ q => by
      have := nbit_mono (set := set) (a := 0) (b := 5) (by omega) (by omega)
      rw [nbit_0] at this
      omega⟩ ?_ ?_
    · intro I2 o4 hJ
      obtain ⟨j1, j3⟩ := hJ
      refine Wk.iload_n (k := 2) (q := 3) (by decide +kernel) rfl rfl rfl ?_
      refine Wk.iconst (n := 3) (q := 4) (by decide +kernel) rfl ?_
      refine Wk.icmp_ge (off := (53)) (t := 57) (q := 7) (by decide +kernel) (by decide) rfl (by first | omega | exact bi_rng _) (by first | omega | exact bi_rng _) (fun hc4 => ?_) (fun hc4 => ?_)
      · refine Wk.iconst (n := (-1)) (q := 58) (by decide +kernel) rfl ?_
        exact Wk.riP (by decide +kernel) rfl (⟨Or.inr ⟨rfl, fun set q1 q2 q3 => j3 set q1 q2 (by omega)⟩, j1, rfl⟩)
      · omega
    · intro c I2 o4 c0 c1 hJ ih
      obtain ⟨j1, j3⟩ := hJ
      have keyS : Wk xs x_Mod_layMoves (d + 9) 0 0 9 [some (vr 148), some (vi k), some (vi c), some (vi 0)] [] X2 I2 L (p2 fun v I' L' => ((∃ set R, v = some (vi (nbit set 5)) ∧ ZFound I k I' set R) ∨ (v = some (vi (-1)) ∧ ZNone I k)) ∧ Kp I' I ∧ L' = L) := by
        refine loopS (σ := IM) (fun s I2 => Wk xs x_Mod_layMoves (d + 9) 0 0 9 [some (vr 148), some (vi k), some (vi c), some (vi s)] [] X2 I2 L (p2 fun v I' L' => ((∃ set R, v = some (vi (nbit set 5)) ∧ ZFound I k I' set R) ∨ (v = some (vi (-1)) ∧ ZNone I k)) ∧ Kp I' I ∧ L' = L)) (fun s I2 => Kp I2 I ∧ ∀ set, 0 ≤ set → set < (2 ^ (I 149 4).toNat : Nat) → (nbit set 5 < c ∨ (nbit set 5 = c ∧ set < s)) → ¬ ZE I k set) ((2 ^ (I 149 4).toNat : Nat) : Int) 0 I2 (by omega) ⟨j1, fun set q1 q2 q3 => j3 set q1 q2 (by omega)⟩ ?_ ?_
        · intro I3 hJ3
          obtain ⟨i1, i3⟩ := hJ3
          have e1 := i1.w
          refine Wk.iload_n (k := 3) (q := 10) (by decide +kernel) rfl rfl rfl ?_
          refine Wk.iconst (n := 1) (q := 11) (by decide +kernel) rfl ?_
          refine Wk.aload_n (k := 0) (q := 12) (by decide +kernel) rfl rfl rfl ?_
          refine Wk.getR (r := 149) (q := 15) f_Mod_7 (by decide +kernel) O_148 (by decide) rfl rfl rfl ?_
          refine Wk.iconst (n := 4) (q := 16) (by decide +kernel) rfl ?_
          refine Wk.iaload (q := 17) (by decide +kernel) A_149 (by first | omega | exact bi_rng _) (by first | omega | exact bi_rng _) rfl ?_
          refine Wk.ishl (q := 18) (by decide +kernel) rfl ?_
          rw [e1, hsh]
          refine Wk.icmp_ge (off := (33)) (t := 51) (q := 21) (by decide +kernel) (by decide) rfl (by first | omega | exact bi_rng _) (by first | omega | exact bi_rng _) (fun hc18 => ?_) (fun hc18 => ?_)
          · refine Wk.iinc (i := 2) (n := 1) (q := 54) (by decide +kernel) rfl (by decide) rfl (fun _ h => h) rfl ?_
            refine Wk.goto (off := (-52)) (q := 2) (by decide +kernel) (by decide) ?_
            exact ih _ _ ⟨i1, fun set q1 q2 q3 => i3 set q1 q2 (by omega)⟩
          · omega
        · intro s I3 s0 s1 hJ3 ih2
          obtain ⟨i1, i3⟩ := hJ3
          have e1 := i1.w
          have e4 : I3 149 4 = I 149 4 := by rw [e1]
          have hnb := ct_range (fun b => bt s b = true) 5
          rw [show ct (fun b => bt s b = true) 5 = nbit s 5 from rfl] at hnb
          refine Wk.iload_n (k := 3) (q := 10) (by decide +kernel) rfl rfl rfl ?_
          refine Wk.iconst (n := 1) (q := 11) (by decide +kernel) rfl ?_
          refine Wk.aload_n (k := 0) (q := 12) (by decide +kernel) rfl rfl rfl ?_
          refine Wk.getR (r := 149) (q := 15) f_Mod_7 (by decide +kernel) O_148 (by decide) rfl rfl rfl ?_
          refine Wk.iconst (n := 4) (q := 16) (by decide +kernel) rfl ?_
          refine Wk.iaload (q := 17) (by decide +kernel) A_149 (by first | omega | exact bi_rng _) (by first | omega | exact bi_rng _) rfl ?_
          refine Wk.ishl (q := 18) (by decide +kernel) rfl ?_
          rw [e1, hsh]
          refine Wk.icmp_ge (off := (33)) (t := 51) (q := 21) (by decide +kernel) (by decide) rfl (by first | omega | exact bi_rng _) (by first | omega | exact bi_rng _) (fun hc18 => ?_) (fun hc18 => ?_)
          · omega
          · refine Wk.iload_n (k := 3) (q := 22) (by decide +kernel) rfl rfl rfl ?_
            refine Wk.cSi (q := 25) l_Mod_115 m_Mod_ones (by decide +kernel) (fun _ h => h) (Nat.le_of_ble_eq_true rfl) (Nat.le_of_ble_eq_true rfl) rfl (c_Mod_ones s0 (by omega)) rfl ?_
            rw [show ct (fun b => bt s b = true) (5 : Int).toNat = nbit s 5 from rfl]
            refine Wk.iload_n (k := 2) (q := 26) (by decide +kernel) rfl rfl rfl ?_
            refine Wk.icmp_ne (off := (19)) (t := 45) (q := 29) (by decide +kernel) (by decide) rfl (by first | omega | exact bi_rng _) (by first | omega | exact bi_rng _) (fun hc26 => ?_) (fun hc26 => ?_)
            · refine Wk.iinc (i := 3) (n := 1) (q := 48) (by decide +kernel) rfl (by decide) rfl (fun _ h => h) rfl ?_
              refine Wk.goto (off := (-39)) (q := 9) (by decide +kernel) (by decide) ?_
              first
                | (refine ih2 _ ⟨i1, fun set p1 p2 p3 => ?_⟩
                   by_cases hs : set = s
                   · subst hs
                     exact i3 _ p1 p2 (by omega)
                   · exact i3 set p1 p2 (by omega))
                | (refine ih2 _ ⟨q1.trans i1, fun set p1 p2 p3 => ?_⟩
                   by_cases hs : set = s
                   · rcases hv with ⟨hv, -⟩ | ⟨-, hv⟩
                     · injection hv with hv
                       have : z = 1 := by injection hv
                       omega
                     · rw [hs]; exact hv
                   · exact i3 set p1 p2 (by omega))
            · refine Wk.aload_n (k := 0) (q := 30) (by decide +kernel) rfl rfl rfl ?_
              refine Wk.iload_n (k := 1) (q := 31) (by decide +kernel) rfl rfl rfl ?_
              refine Wk.iload_n (k := 3) (q := 32) (by decide +kernel) rfl rfl rfl ?_
              refine Wk.cV (q := 35) l_Mod_118 m_Mod_tryMoved (by decide +kernel) (fun _ h => h) O_148 rfl (Nat.le_of_ble_eq_true rfl) (Nat.le_of_ble_eq_true rfl) rfl (c_Mod_tryMoved k0 (by rw [e1]; exact k1) ((MW_eq e1).mpr hM) s0 (by rw [e4]; exact s1) (by omega)) rfl (fun v I4 L4 hP => ?_)
              obtain ⟨hv, q1, rfl⟩ := hP
              rw [ZE_eq e1, e4] at hv
              obtain ⟨z, hz, hz2⟩ : ∃ z : Int, (z = 0 ∨ z = 1) ∧ v = some (vi z) := by
                rcases hv with ⟨rfl, -⟩ | ⟨rfl, -⟩
                · exact ⟨1, Or.inr rfl, rfl⟩
                · exact ⟨0, Or.inl rfl, rfl⟩
              subst hz2
              refine Wk.if_eq (off := (10)) (t := 45) (q := 38) (by decide +kernel) (by decide) rfl (by first | omega | exact bi_rng _) (fun hc35 => ?_) (fun hc35 => ?_)
              · refine Wk.iinc (i := 3) (n := 1) (q := 48) (by decide +kernel) rfl (by decide) rfl (fun _ h => h) rfl ?_
                refine Wk.goto (off := (-39)) (q := 9) (by decide +kernel) (by decide) ?_
                first
                  | (refine ih2 _ ⟨i1, fun set p1 p2 p3 => ?_⟩
                     by_cases hs : set = s
                     · subst hs
                       exact i3 _ p1 p2 (by omega)
                     · exact i3 set p1 p2 (by omega))
                  | (refine ih2 _ ⟨q1.trans i1, fun set p1 p2 p3 => ?_⟩
                     by_cases hs : set = s
                     · rcases hv with ⟨hv, -⟩ | ⟨-, hv⟩
                       · injection hv with hv
                         have : z = 1 := by injection hv
                         omega
                       · rw [hs]; exact hv
                     · exact i3 set p1 p2 (by omega))
              · refine Wk.aload_n (k := 0) (q := 39) (by decide +kernel) rfl rfl rfl ?_
                refine Wk.iload_n (k := 3) (q := 40) (by decide +kernel) rfl rfl rfl ?_
                refine Wk.putI (z := 11) (q := 43) f_Mod_121 fw_Mod_11 (by decide +kernel) O_148 (by decide) rfl rfl ⟨rfl, rfl⟩ rfl ?_
                refine Wk.iload_n (k := 2) (q := 44) (by decide +kernel) rfl rfl rfl ?_
                exact Wk.riP (by decide +kernel) rfl (⟨Or.inl (by
            rcases hv with ⟨-, R, r1, r2⟩ | ⟨hv, -⟩
            · rw [zG_eq e1, zK_eq e1] at r2
              have hcs : nbit s 5 = c := by omega
              refine ⟨s, R, by rw [hcs], ⟨s0, s1⟩, by omega, r1, ?_, iup_at _ _ _ _, fun set2 p1 p2 p3 => i3 set2 p1 p2 (by omega)⟩
              rw [iup_other (by decide)]
              exact r2
            · injection hv with hv
              have : z = 0 := by injection hv
              omega), (Kp.moved _ _).trans (q1.trans i1), rfl⟩)
      refine Wk.iload_n (k := 2) (q := 3) (by decide +kernel) rfl rfl rfl ?_
      refine Wk.iconst (n := 3) (q := 4) (by decide +kernel) rfl ?_
      refine Wk.icmp_ge (off := (53)) (t := 57) (q := 7) (by decide +kernel) (by decide) rfl (by first | omega | exact bi_rng _) (by first | omega | exact bi_rng _) (fun hc4 => ?_) (fun hc4 => ?_)
      · omega
      · refine Wk.iconst (n := 0) (q := 8) (by decide +kernel) rfl ?_
        refine Wk.istore_n (k := 3) (q := 9) (by decide +kernel) rfl (by decide) rfl (fun _ h => h) rfl ?_
        exact keyS
  refine Wk.iconst (n := 0) (q := 1) (by decide +kernel) rfl ?_
  refine Wk.istore_n (k := 2) (q := 2) (by decide +kernel) rfl (by decide) rfl (fun _ h => h) rfl ?_
  exact keyC
end MOH
