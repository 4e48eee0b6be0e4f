/-! DRIFT -/
def stC (J I2 : IM) : Prop := ∃ Ia, RemC J Ia ∧ I2 = iup (iup (iup Ia 0 5 (nextSeed (J 0 5))) 0 5 (nextSeed (nextSeed (J 0 5)))) 2 (nextSeed (J 0 5) / 65536 % (J 1 0 * J 1 1)) (nextSeed (nextSeed (J 0 5)) / 65536 % 10)
def dC : Nat → IM → IM → Prop
  | 0, I, I2 => I2 = I
  | n + 1, I, I2 => ∃ J, dC n I J ∧ stC J I2
def stM (J : IM) : IM := iup (iup (iup (remM J) 148 3 (nextSeed (J 148 3))) 148 3 (nextSeed (nextSeed (J 148 3)))) 149 (6 + nextSeed (J 148 3) / 65536 % (J 149 0 * J 149 1)) (nextSeed (nextSeed (J 148 3)) / 65536 % 10)
def dM : Nat → IM → IM
  | 0, I => I
  | n + 1, I => stM (dM n I)
theorem dM_step (I : IM) {k : Int} (h : 0 ≤ k) : dM (k + 1).toNat I = stM (dM k.toNat I) := by
  rw [show (k + 1).toNat = k.toNat + 1 by omega]
  rfl
theorem CW_dep {J I2 : IM} (h : CW J) (h1 : ∀ c, 1 ≤ c → c ≤ 7 → ¬ c = 2 → I2 c = J c) (h2 : ∀ k, 0 ≤ k → k < 49 → 0 ≤ I2 2 k ∧ I2 2 k ≤ 9) : CW I2 := by
  unfold CW CI0 CI1 CI2 Slot1 at *
  rw [h1 1 (by decide) (by decide) (by decide), h1 3 (by decide) (by decide) (by decide), h1 4 (by decide) (by decide) (by decide), h1 5 (by decide) (by decide) (by decide), h1 6 (by decide) (by decide) (by decide), h1 7 (by decide) (by decide) (by decide)]
  obtain ⟨⟨a0, a1, a2, a3, a4, a5, a6⟩, b, c⟩ := h
  exact ⟨⟨a0, a1, a2, a3, a4, a5, h2⟩, b, c⟩
/-- what the class has to know of itself to go on -/
def Rdy (I : IM) : Prop := CW I ∧ (0 ≤ I 8 1 ∧ I 8 1 < 16) ∧ (0 ≤ I 8 2 ∧ I 8 2 ≤ 16)
theorem Rdy_st {J I2 : IM} (h : Rdy J) (hs : stC J I2) : Rdy I2 := by
  obtain ⟨hC, hn, hk⟩ := h
  obtain ⟨Ia, hR, rfl⟩ := hs
  refine ⟨CW_dep hC (fun c c0 c1 c2 => ?_) (fun k k0 k1 => ?_), ?_, ?_⟩
  · rw [iup_other c2, iup_other (by omega), iup_other (by omega)]
    exact hR.lo (by omega)
  · by_cases he : k = nextSeed (J 0 5) / 65536 % (J 1 0 * J 1 1)
    · rw [he, iup_at]
      omega
    · rw [iup_ne (fun z => he z.2), iup_other (by omega), iup_other (by omega), hR.lo (by omega)]
      exact hC.1.2.2.2.2.2.2 k k0 k1
  · rw [iup_other (by omega), iup_other (by omega), iup_other (by omega), hR.1]
    omega
  · rw [iup_other (by omega), iup_other (by omega), iup_other (by omega), hR.2.1]
    omega
section DRF
variable {xs : RO} {d : Nat} {I : IM} {L : LM}

theorem c_Sw_drift {n : Int} (hn : -2147483648 ≤ n ∧ n ≤ 2147483647) (hR : Rdy I) : Wk xs x_Sw_drift (d + 8) 0 0 0 [some (vr 0), some (vi n), none, none] [] X2 I L (p2 fun u I' _ => ∃ z, u = some (vi z) ∧ (((n < 1 ∨ 12 < n) ∧ z = -1000000002 ∧ I' = I) ∨ (¬ (n < 1 ∨ 12 < n) ∧ dC n.toNat I I' ∧ z = cDG I' (I' 1 3)))) := by
  have key : ¬ (n < 1 ∨ 12 < n) → Wk xs x_Sw_drift (d + 8) 0 0 15 [some (vr 0), some (vi n), some (vi 0), none] [] X2 I L (p2 fun u I' _ => ∃ z, u = some (vi z) ∧ (((n < 1 ∨ 12 < n) ∧ z = -1000000002 ∧ I' = I) ∨ (¬ (n < 1 ∨ 12 < n) ∧ dC n.toNat I I' ∧ z = cDG I' (I' 1 3)))) := by
    intro hc7
    refine loopS3 (σ := IM) (τ := LM) (υ := Option AV) (fun k I2 L2 o => Wk xs x_Sw_drift (d + 8) 0 0 15 [some (vr 0), some (vi n), some (vi k), o] [] X2 I2 L2 (p2 fun u I' _ => ∃ z, u = some (vi z) ∧ (((n < 1 ∨ 12 < n) ∧ z = -1000000002 ∧ I' = I) ∨ (¬ (n < 1 ∨ 12 < n) ∧ dC n.toNat I I' ∧ z = cDG I' (I' 1 3))))) (fun k I2 _ _ => Rdy I2 ∧ dC k.toNat I I2) n 0 I L none (by omega) ⟨hR, rfl⟩ ?_ ?_
    · intro I2 L2 o hJ
      obtain ⟨hR2, hd2⟩ := hJ
      have hF := hR2.1.1.2.2.2.1
      refine Wk.iload_n (k := 2) (q := 16) (by decide +kernel) rfl rfl rfl ?_
      refine Wk.iload_n (k := 1) (q := 17) (by decide +kernel) rfl rfl rfl ?_
      refine Wk.icmp_ge (off := (54)) (t := 71) (q := 20) (by decide +kernel) (by decide) rfl (by first | omega | exact bi_rng _) (by first | omega | exact bi_rng _) (fun hc17 => ?_) (fun hc17 => ?_)
      · refine Wk.aload_n (k := 0) (q := 72) (by decide +kernel) rfl rfl rfl ?_
        refine Wk.getR (r := 1) (q := 75) f_Sw_12 (by decide +kernel) O_0 (by decide) rfl rfl rfl ?_
        refine Wk.aload_n (k := 0) (q := 76) (by decide +kernel) rfl rfl rfl ?_
        refine Wk.getR (r := 1) (q := 79) f_Sw_12 (by decide +kernel) O_0 (by decide) rfl rfl rfl ?_
        refine Wk.getI (z := 3) (q := 82) f_Sw_57 (by decide +kernel) O_1 (by decide) rfl rfl rfl ?_
        refine Wk.cSi (q := 85) l_Sw_66 m_Swing_inDanger (by decide +kernel) (fun _ h => h) (Nat.le_of_ble_eq_true rfl) (Nat.le_of_ble_eq_true rfl) rfl (c_Swing_inDanger (by omega) hR2.1) rfl ?_
        exact Wk.riP (by decide +kernel) rfl (⟨_, rfl, Or.inr ⟨hc7, hd2, rfl⟩⟩)
      · omega
    · intro k I2 L2 o k0 k1 hJ ih
      obtain ⟨hR2, hd2⟩ := hJ
      obtain ⟨hC2, hn2, hk2⟩ := id hR2
      have hwh := WH49 (W := I2 1 0) (H := I2 1 1) (by have := hC2.1.1; omega) (by have := hC2.1.2.1; omega)
      have hpos : 0 < I2 1 0 * I2 1 1 := Int.mul_pos (by have := hC2.1.1; omega) (by have := hC2.1.2.1; omega)
      have hr1 : 0 ≤ nextSeed (I2 0 5) / 65536 % (I2 1 0 * I2 1 1) ∧ nextSeed (I2 0 5) / 65536 % (I2 1 0 * I2 1 1) < I2 1 0 * I2 1 1 := ⟨Int.emod_nonneg _ (by omega), Int.emod_lt_of_pos _ hpos⟩
      refine Wk.iload_n (k := 2) (q := 16) (by decide +kernel) rfl rfl rfl ?_
      refine Wk.iload_n (k := 1) (q := 17) (by decide +kernel) rfl rfl rfl ?_
      refine Wk.icmp_ge (off := (54)) (t := 71) (q := 20) (by decide +kernel) (by decide) rfl (by first | omega | exact bi_rng _) (by first | omega | exact bi_rng _) (fun hc17 => ?_) (fun hc17 => ?_)
      · omega
      · refine Wk.aload_n (k := 0) (q := 21) (by decide +kernel) rfl rfl rfl ?_
        refine Wk.getR (r := 8) (q := 24) f_Sw_19 (by decide +kernel) O_0 (by decide) rfl rfl rfl ?_
        refine Wk.aload_n (k := 0) (q := 25) (by decide +kernel) rfl rfl rfl ?_
        refine Wk.getR (r := 1) (q := 28) f_Sw_12 (by decide +kernel) O_0 (by decide) rfl rfl rfl ?_
        refine Wk.cV (q := 31) l_Sw_197 m_Hist_remember (by decide +kernel) (fun _ h => h) O_8 rfl (Nat.le_of_ble_eq_true rfl) (Nat.le_of_ble_eq_true rfl) rfl (c_Hist_remember hn2 hk2) rfl (fun v0 Ia La hP => ?_)
        obtain ⟨rfl, ⟨J, hJ, eA⟩, eL⟩ := hP
        have hRem : RemC I2 Ia := by rw [eA]; exact RemC.of hJ
        have e0 : Ia 0 = I2 0 := hRem.lo (by decide)
        refine Wk.aload_n (k := 0) (q := 32) (by decide +kernel) rfl rfl rfl ?_
        refine Wk.aload_n (k := 0) (q := 33) (by decide +kernel) rfl rfl rfl ?_
        refine Wk.getR (r := 1) (q := 36) f_Sw_12 (by decide +kernel) O_0 (by decide) rfl rfl rfl ?_
        refine Wk.getI (z := 0) (q := 39) f_Sw_48 (by decide +kernel) O_1 (by decide) rfl rfl rfl ?_
        rw [show Ia 1 = I2 1 from hRem.lo (by decide)]
        refine Wk.aload_n (k := 0) (q := 40) (by decide +kernel) rfl rfl rfl ?_
        refine Wk.getR (r := 1) (q := 43) f_Sw_12 (by decide +kernel) O_0 (by decide) rfl rfl rfl ?_
        refine Wk.getI (z := 1) (q := 46) f_Sw_51 (by decide +kernel) O_1 (by decide) rfl rfl rfl ?_
        rw [show Ia 1 = I2 1 from hRem.lo (by decide)]
        refine Wk.imul (q := 47) (by decide +kernel) rfl ?_
        refine Wk.cV (q := 50) l_Sw_237 m_Sw_draw (by decide +kernel) (fun _ h => h) O_0 rfl (Nat.le_of_ble_eq_true rfl) (Nat.le_of_ble_eq_true rfl) rfl (c_Sw_draw hpos (by omega)) rfl (fun v1 Ib Lb hP2 => ?_)
        obtain ⟨rfl, eB, eL2⟩ := hP2
        rw [eB, e0]
        refine Wk.istore_n (k := 3) (q := 51) (by decide +kernel) rfl (by decide) rfl (fun _ h => h) rfl ?_
        refine Wk.aload_n (k := 0) (q := 52) (by decide +kernel) rfl rfl rfl ?_
        refine Wk.getR (r := 1) (q := 55) f_Sw_12 (by decide +kernel) O_0 (by decide) rfl rfl rfl ?_
        refine Wk.iload_n (k := 3) (q := 56) (by decide +kernel) rfl rfl rfl ?_
        refine Wk.aload_n (k := 0) (q := 57) (by decide +kernel) rfl rfl rfl ?_
        refine Wk.bipush (n := 10) (q := 59) (by decide +kernel) (by decide +kernel) rfl ?_
        refine Wk.cV (q := 62) l_Sw_237 m_Sw_draw (by decide +kernel) (fun _ h => h) O_0 rfl (Nat.le_of_ble_eq_true rfl) (Nat.le_of_ble_eq_true rfl) rfl (c_Sw_draw (by omega) (by omega)) rfl (fun v2 Ic Lc hP3 => ?_)
        obtain ⟨rfl, eC, eL3⟩ := hP3
        rw [eC, iup_at]
        refine Wk.cVv (q := 65) l_Sw_205 m_Harb_changeDepth (by decide +kernel) (fun _ h => h) O_1 rfl (Nat.le_of_ble_eq_true rfl) (Nat.le_of_ble_eq_true rfl) rfl (c_Harb_changeDepth hr1.1 (by omega)) rfl ?_
        refine Wk.iinc (i := 2) (n := 1) (q := 68) (by decide +kernel) rfl (by decide) rfl (fun _ h => h) rfl ?_
        refine Wk.goto (off := (-53)) (q := 15) (by decide +kernel) (by decide) ?_
        refine ih _ _ _ ⟨Rdy_st hR2 ?_, ?_⟩
        · exact ⟨Ia, hRem, rfl⟩
        · rw [show (k + 1).toNat = k.toNat + 1 by omega]
          exact ⟨I2, hd2, Ia, hRem, rfl⟩
  refine Wk.iload_n (k := 1) (q := 1) (by decide +kernel) rfl rfl rfl ?_
  refine Wk.iconst (n := 1) (q := 2) (by decide +kernel) rfl ?_
  refine Wk.bipush (n := 12) (q := 4) (by decide +kernel) (by decide +kernel) rfl ?_
  refine Wk.cSi (q := 7) l_Sw_193 m_Sw_isOut (by decide +kernel) (fun _ h => h) (Nat.le_of_ble_eq_true rfl) (Nat.le_of_ble_eq_true rfl) rfl (c_Sw_isOut hn (by omega) (by omega)) rfl ?_
  refine Wk.ifB_eq (off := (6)) (t := 13) (q := 10) (by decide +kernel) (by decide) rfl (fun hc7 => ?_) (fun hc7 => ?_)
  · refine Wk.iconst (n := 0) (q := 14) (by decide +kernel) rfl ?_
    refine Wk.istore_n (k := 2) (q := 15) (by decide +kernel) rfl (by decide) rfl (fun _ h => h) rfl ?_
    exact key hc7
  · refine Wk.ldc (z := (-1000000002)) (q := 12) k_Sw_102 (by decide +kernel) (by decide +kernel) rfl ?_
    exact Wk.riP (by decide +kernel) rfl (⟨_, rfl, Or.inl ⟨hc7, rfl, rfl⟩⟩)
end DRF
