/-! HARBOURS THAT ARE COPIED: the class's Harbour, History, Image, Book -/
def HOK (X : LY) (o : Nat) : Prop := isO X o 1 12 ∧ (∀ j, j < 6 → (X.2 o).2.2 (6 + j) = some (o + 1 + j)) ∧ isA X (o + 1) 10 49 ∧ isA X (o + 2) 10 8 ∧ isA X (o + 3) 10 8 ∧ isA X (o + 4) 10 8 ∧ isA X (o + 5) 10 8 ∧ isA X (o + 6) 10 8
theorem HOK_1 : HOK X2 1 := by unfold HOK isO isA; decide +kernel
theorem HOK_h_a : ∀ i, i < 16 → isO X2 (10 + 7 * i) 1 12 := by unfold isO; decide +kernel
theorem HOK_h_b : ∀ i, i < 16 → ∀ j, j < 6 → (X2.2 (10 + 7 * i)).2.2 (6 + j) = some (10 + 7 * i + 1 + j) := by decide +kernel
theorem HOK_h_1 : ∀ i, i < 16 → isA X2 (10 + 7 * i + 1) 10 49 := by unfold isA; decide +kernel
theorem HOK_h_2 : ∀ i, i < 16 → isA X2 (10 + 7 * i + 2) 10 8 := by unfold isA; decide +kernel
theorem HOK_h_3 : ∀ i, i < 16 → isA X2 (10 + 7 * i + 3) 10 8 := by unfold isA; decide +kernel
theorem HOK_h_4 : ∀ i, i < 16 → isA X2 (10 + 7 * i + 4) 10 8 := by unfold isA; decide +kernel
theorem HOK_h_5 : ∀ i, i < 16 → isA X2 (10 + 7 * i + 5) 10 8 := by unfold isA; decide +kernel
theorem HOK_h_6 : ∀ i, i < 16 → isA X2 (10 + 7 * i + 6) 10 8 := by unfold isA; decide +kernel
theorem HOK_h : ∀ i, i < 16 → HOK X2 (10 + 7 * i) := fun i h => ⟨HOK_h_a i h, HOK_h_b i h, HOK_h_1 i h, HOK_h_2 i h, HOK_h_3 i h, HOK_h_4 i h, HOK_h_5 i h, HOK_h_6 i h⟩
theorem HOK_i_a : ∀ i, i < 2 → isO X2 (133 + 8 * i) 1 12 := by unfold isO; decide +kernel
theorem HOK_i_b : ∀ i, i < 2 → ∀ j, j < 6 → (X2.2 (133 + 8 * i)).2.2 (6 + j) = some (133 + 8 * i + 1 + j) := by decide +kernel
theorem HOK_i_1 : ∀ i, i < 2 → isA X2 (133 + 8 * i + 1) 10 49 := by unfold isA; decide +kernel
theorem HOK_i_2 : ∀ i, i < 2 → isA X2 (133 + 8 * i + 2) 10 8 := by unfold isA; decide +kernel
theorem HOK_i_3 : ∀ i, i < 2 → isA X2 (133 + 8 * i + 3) 10 8 := by unfold isA; decide +kernel
theorem HOK_i_4 : ∀ i, i < 2 → isA X2 (133 + 8 * i + 4) 10 8 := by unfold isA; decide +kernel
theorem HOK_i_5 : ∀ i, i < 2 → isA X2 (133 + 8 * i + 5) 10 8 := by unfold isA; decide +kernel
theorem HOK_i_6 : ∀ i, i < 2 → isA X2 (133 + 8 * i + 6) 10 8 := by unfold isA; decide +kernel
theorem HOK_i : ∀ i, i < 2 → HOK X2 (133 + 8 * i) := fun i h => ⟨HOK_i_a i h, HOK_i_b i h, HOK_i_1 i h, HOK_i_2 i h, HOK_i_3 i h, HOK_i_4 i h, HOK_i_5 i h, HOK_i_6 i h⟩
theorem IO_i : ∀ i, i < 2 → isO X2 (132 + 8 * i) 3 3 ∧ (X2.2 (132 + 8 * i)).2.2 0 = some (133 + 8 * i) := by unfold isO; decide +kernel
theorem R9 : ∀ i, i < 16 → (X2.2 9).2.2 i = some (10 + 7 * i) := by decide +kernel
theorem R131 : ∀ i, i < 2 → (X2.2 131).2.2 i = some (132 + 8 * i) := by decide +kernel
def HLen (j : Nat) : Int := if j = 1 then 49 else 8
def HF (I : IM) (s t : Nat) (k : Int) (I' : IM) : Prop := (∀ b, 0 ≤ b → b < k → I' t b = I s b) ∧ ∀ a, ¬ a = t → I' a = I a
theorem HF.step {I I' : IM} {s t : Nat} {k k' : Int} (h : HF I s t k I') (hs : ¬ s = t) (hk : k + 1 = k') : HF I s t k' (iup I' t k (I' s k)) := by
  subst hk
  refine ⟨fun b b0 b1 => ?_, fun a ha => ?_⟩
  · by_cases hb : b = k
    · rw [hb, iup_at, h.2 s hs]
    · rw [iup_ne (fun z => hb z.2)]; exact h.1 b b0 (by omega)
  · rw [iup_other ha]; exact h.2 a ha
def HC (I : IM) (s t j : Nat) (I' : IM) : Prop := (∀ b, 0 ≤ b → b < 6 → I' t b = I s b) ∧ (∀ i b, 1 ≤ i → i ≤ j → 0 ≤ b → b < HLen i → I' (t + i) b = I (s + i) b) ∧ ∀ a, (a < t ∨ t + j < a) → I' a = I a
theorem HC.nil {I I' : IM} {s t : Nat} (h : HF I s t 6 I') : HC I s t 0 I' := ⟨h.1, fun i b i0 i1 => by omega, fun a ha => h.2 a (by omega)⟩
theorem HC.step {I I' : IM} {s t j : Nat} {n : Int} (h : HC I s t j I') (hj : j < 6) (hn : HLen (j + 1) = n) (hd : s + 6 < t ∨ t + 6 < s) : HC I s t (j + 1) (icpy I' (s + (j + 1)) 0 (t + (j + 1)) 0 n) := by
  obtain ⟨h1, h2, h3⟩ := h
  refine ⟨fun b b0 b1 => ?_, fun i b i0 i1 b0 b1 => ?_, fun a ha => ?_⟩
  · simp only [icpy]
    rw [if_neg (by omega)]
    exact h1 b b0 b1
  · by_cases hi : i = j + 1
    · subst hi
      simp only [icpy]
      rw [if_pos ⟨trivial, by omega, by omega⟩, h3 _ (by omega)]
      congr 1; omega
    · simp only [icpy]
      rw [if_neg (by omega)]
      exact h2 i b i0 (by omega) b0 b1
  · funext b
    simp only [icpy]
    rw [if_neg (by omega), h3 a (by omega)]
/-- what laying out leaves -/
def LAY (I : IM) (o : Nat) (w h : Int) (I' : IM) : Prop := (I' o 0 = w ∧ I' o 1 = h ∧ I' o 4 = 0 ∧ I' o 5 = 0) ∧ (∀ b, ¬ b = 0 → ¬ b = 1 → ¬ b = 4 → ¬ b = 5 → I' o b = I o b) ∧ (∀ b, 0 ≤ b → b < 49 → I' (o + 1) b = 5) ∧ ∀ a, ¬ a = o → ¬ a = o + 1 → I' a = I a
section CPY
variable {xs : RO} {d : Nat} {I : IM} {L : LM} {X : LY}

theorem c_Harb_layOut {t : Nat} {w h : Int} (hT : HOK X t) : Wk xs x_Harb_layOut d 0 0 0 [some (vr t), some (vi w), some (vi h), none] [] X I L (fun v X' I' L' => X' = X ∧ v = none ∧ LAY I t w h I' ∧ L' = L) := by
  have key : ∀ I1 : IM, (fun k I2 => (I2 t 0 = w ∧ I2 t 1 = h ∧ I2 t 4 = 0 ∧ I2 t 5 = 0) ∧ (∀ b, ¬ b = 0 → ¬ b = 1 → ¬ b = 4 → ¬ b = 5 → I2 t b = I t b) ∧ (∀ b, 0 ≤ b → b < k → I2 (t + 1) b = 5) ∧ ∀ a, ¬ a = t → ¬ a = t + 1 → I2 a = I a) 0 I1 → Wk xs x_Harb_layOut d 0 0 22 [some (vr t), some (vi w), some (vi h), some (vi 0)] [] X I1 L (fun v X' I' L' => X' = X ∧ v = none ∧ LAY I t w h I' ∧ L' = L) := by
    intro I1 hI1
    refine loopS (σ := IM) (fun k I2 => Wk xs x_Harb_layOut d 0 0 22 [some (vr t), some (vi w), some (vi h), some (vi k)] [] X I2 L (fun v X' I' L' => X' = X ∧ v = none ∧ LAY I t w h I' ∧ L' = L)) (fun k I2 => (I2 t 0 = w ∧ I2 t 1 = h ∧ I2 t 4 = 0 ∧ I2 t 5 = 0) ∧ (∀ b, ¬ b = 0 → ¬ b = 1 → ¬ b = 4 → ¬ b = 5 → I2 t b = I t b) ∧ (∀ b, 0 ≤ b → b < k → I2 (t + 1) b = 5) ∧ ∀ a, ¬ a = t → ¬ a = t + 1 → I2 a = I a) 49 0 I1 (by omega) hI1 ?_ ?_
    · intro I2 hJ
      refine Wk.iload_n (k := 3) (q := 23) (by decide +kernel) rfl rfl rfl ?_
      refine Wk.aload_n (k := 0) (q := 24) (by decide +kernel) rfl rfl rfl ?_
      refine Wk.getR (r := (t + 1)) (q := 27) f_Harb_9 (by decide +kernel) hT.1 (by decide) rfl (hT.2.1 0 (by decide)) rfl ?_
      refine Wk.alen (q := 28) (by decide +kernel) hT.2.2.1 rfl rfl ?_
      refine Wk.icmp_ge (off := (16)) (t := 44) (q := 31) (by decide +kernel) (by decide) rfl (by first | omega | exact bi_rng _) (by first | omega | exact bi_rng _) (fun hc28 => ?_) (fun hc28 => ?_)
      · exact Wk.vret (by decide +kernel) rfl (⟨rfl, rfl, hJ, rfl⟩)
      · omega
    · intro k I2 k0 k1 hJ ih
      obtain ⟨⟨j1, j2, j3, j4⟩, j5, j6, j7⟩ := hJ
      refine Wk.iload_n (k := 3) (q := 23) (by decide +kernel) rfl rfl rfl ?_
      refine Wk.aload_n (k := 0) (q := 24) (by decide +kernel) rfl rfl rfl ?_
      refine Wk.getR (r := (t + 1)) (q := 27) f_Harb_9 (by decide +kernel) hT.1 (by decide) rfl (hT.2.1 0 (by decide)) rfl ?_
      refine Wk.alen (q := 28) (by decide +kernel) hT.2.2.1 rfl rfl ?_
      refine Wk.icmp_ge (off := (16)) (t := 44) (q := 31) (by decide +kernel) (by decide) rfl (by first | omega | exact bi_rng _) (by first | omega | exact bi_rng _) (fun hc28 => ?_) (fun hc28 => ?_)
      · omega
      · refine Wk.aload_n (k := 0) (q := 32) (by decide +kernel) rfl rfl rfl ?_
        refine Wk.getR (r := (t + 1)) (q := 35) f_Harb_9 (by decide +kernel) hT.1 (by decide) rfl (hT.2.1 0 (by decide)) rfl ?_
        refine Wk.iload_n (k := 3) (q := 36) (by decide +kernel) rfl rfl rfl ?_
        refine Wk.iconst (n := 5) (q := 37) (by decide +kernel) rfl ?_
        refine Wk.iastore (q := 38) (by decide +kernel) hT.2.2.1 (by first | omega | exact bi_rng _) (by first | omega | exact bi_rng _) rfl ?_
        refine Wk.iinc (i := 3) (n := 1) (q := 41) (by decide +kernel) rfl (by decide) rfl (fun _ h => h) rfl ?_
        refine Wk.goto (off := (-19)) (q := 22) (by decide +kernel) (by decide) ?_
        refine ih _ ⟨⟨?_, ?_, ?_, ?_⟩, fun b b0 b1 b2 b3 => ?_, fun b b0 b1 => ?_, fun a a0 a1 => ?_⟩
        · rw [iup_other (by omega)]; exact j1
        · rw [iup_other (by omega)]; exact j2
        · rw [iup_other (by omega)]; exact j3
        · rw [iup_other (by omega)]; exact j4
        · rw [iup_other (by omega)]; exact j5 b b0 b1 b2 b3
        · by_cases hb : b = k
          · rw [hb, iup_at]
          · rw [iup_ne (fun z => hb z.2)]; exact j6 b b0 (by omega)
        · rw [iup_other a1]; exact j7 a a0 a1
  refine Wk.aload_n (k := 0) (q := 1) (by decide +kernel) rfl rfl rfl ?_
  refine Wk.iload_n (k := 1) (q := 2) (by decide +kernel) rfl rfl rfl ?_
  refine Wk.putI (z := 0) (q := 5) f_Harb_41 fw_Harb_0 (by decide +kernel) hT.1 (by decide) rfl rfl ⟨rfl, rfl⟩ rfl ?_
  refine Wk.aload_n (k := 0) (q := 6) (by decide +kernel) rfl rfl rfl ?_
  refine Wk.iload_n (k := 2) (q := 7) (by decide +kernel) rfl rfl rfl ?_
  refine Wk.putI (z := 1) (q := 10) f_Harb_44 fw_Harb_1 (by decide +kernel) hT.1 (by decide) rfl rfl ⟨rfl, rfl⟩ rfl ?_
  refine Wk.aload_n (k := 0) (q := 11) (by decide +kernel) rfl rfl rfl ?_
  refine Wk.iconst (n := 0) (q := 12) (by decide +kernel) rfl ?_
  refine Wk.putI (z := 4) (q := 15) f_Harb_47 fw_Harb_4 (by decide +kernel) hT.1 (by decide) rfl rfl ⟨rfl, rfl⟩ rfl ?_
  refine Wk.aload_n (k := 0) (q := 16) (by decide +kernel) rfl rfl rfl ?_
  refine Wk.iconst (n := 0) (q := 17) (by decide +kernel) rfl ?_
  refine Wk.putI (z := 5) (q := 20) f_Harb_50 fw_Harb_5 (by decide +kernel) hT.1 (by decide) rfl rfl ⟨rfl, rfl⟩ rfl ?_
  refine Wk.iconst (n := 0) (q := 21) (by decide +kernel) rfl ?_
  refine Wk.istore_n (k := 3) (q := 22) (by decide +kernel) rfl (by decide) rfl (fun _ h => h) rfl ?_
  exact key _ ⟨⟨by simp [iup], by simp [iup], by simp [iup], by simp [iup]⟩, fun b b0 b1 b2 b3 => by simp [iup, b0, b1, b2, b3], fun b b0 b1 => by omega, fun a a0 a1 => by funext b; simp [iup, a0]⟩
theorem c_Harb_copyFrom {s t : Nat} (hT : HOK X2 t) (hS : HOK X2 s) (hd : s + 6 < t ∨ t + 6 < s) : Wk xs x_Harb_copyFrom (d + 1) 0 0 0 [some (vr t), some (vr s)] [] X2 I L (p2 fun v I' L' => v = none ∧ HC I s t 6 I' ∧ L' = L) := by
  have hs : ¬ s = t := by omega
  refine Wk.aload_n (k := 0) (q := 1) (by decide +kernel) rfl rfl rfl ?_
  refine Wk.aload_n (k := 1) (q := 2) (by decide +kernel) rfl rfl rfl ?_
  refine Wk.getI (z := 0) (q := 5) f_Harb_41 (by decide +kernel) hS.1 (by decide) rfl rfl rfl ?_
  refine Wk.putI (z := 0) (q := 8) f_Harb_41 fw_Harb_0 (by decide +kernel) hT.1 (by decide) rfl rfl ⟨rfl, rfl⟩ rfl ?_
  refine Wk.aload_n (k := 0) (q := 9) (by decide +kernel) rfl rfl rfl ?_
  refine Wk.aload_n (k := 1) (q := 10) (by decide +kernel) rfl rfl rfl ?_
  refine Wk.getI (z := 1) (q := 13) f_Harb_44 (by decide +kernel) hS.1 (by decide) rfl rfl rfl ?_
  refine Wk.putI (z := 1) (q := 16) f_Harb_44 fw_Harb_1 (by decide +kernel) hT.1 (by decide) rfl rfl ⟨rfl, rfl⟩ rfl ?_
  refine Wk.aload_n (k := 0) (q := 17) (by decide +kernel) rfl rfl rfl ?_
  refine Wk.aload_n (k := 1) (q := 18) (by decide +kernel) rfl rfl rfl ?_
  refine Wk.getI (z := 2) (q := 21) f_Harb_30 (by decide +kernel) hS.1 (by decide) rfl rfl rfl ?_
  refine Wk.putI (z := 2) (q := 24) f_Harb_30 fw_Harb_2 (by decide +kernel) hT.1 (by decide) rfl rfl ⟨rfl, rfl⟩ rfl ?_
  refine Wk.aload_n (k := 0) (q := 25) (by decide +kernel) rfl rfl rfl ?_
  refine Wk.aload_n (k := 1) (q := 26) (by decide +kernel) rfl rfl rfl ?_
  refine Wk.getI (z := 3) (q := 29) f_Harb_34 (by decide +kernel) hS.1 (by decide) rfl rfl rfl ?_
  refine Wk.putI (z := 3) (q := 32) f_Harb_34 fw_Harb_3 (by decide +kernel) hT.1 (by decide) rfl rfl ⟨rfl, rfl⟩ rfl ?_
  refine Wk.aload_n (k := 0) (q := 33) (by decide +kernel) rfl rfl rfl ?_
  refine Wk.aload_n (k := 1) (q := 34) (by decide +kernel) rfl rfl rfl ?_
  refine Wk.getI (z := 4) (q := 37) f_Harb_47 (by decide +kernel) hS.1 (by decide) rfl rfl rfl ?_
  refine Wk.putI (z := 4) (q := 40) f_Harb_47 fw_Harb_4 (by decide +kernel) hT.1 (by decide) rfl rfl ⟨rfl, rfl⟩ rfl ?_
  refine Wk.aload_n (k := 0) (q := 41) (by decide +kernel) rfl rfl rfl ?_
  refine Wk.aload_n (k := 1) (q := 42) (by decide +kernel) rfl rfl rfl ?_
  refine Wk.getI (z := 5) (q := 45) f_Harb_50 (by decide +kernel) hS.1 (by decide) rfl rfl rfl ?_
  refine Wk.putI (z := 5) (q := 48) f_Harb_50 fw_Harb_5 (by decide +kernel) hT.1 (by decide) rfl rfl ⟨rfl, rfl⟩ rfl ?_
  refine Wk.aload_n (k := 1) (q := 49) (by decide +kernel) rfl rfl rfl ?_
  refine Wk.getR (r := (s + 1)) (q := 52) f_Harb_9 (by decide +kernel) hS.1 (by decide) rfl (hS.2.1 0 (by decide)) rfl ?_
  refine Wk.iconst (n := 0) (q := 53) (by decide +kernel) rfl ?_
  refine Wk.aload_n (k := 0) (q := 54) (by decide +kernel) rfl rfl rfl ?_
  refine Wk.getR (r := (t + 1)) (q := 57) f_Harb_9 (by decide +kernel) hT.1 (by decide) rfl (hT.2.1 0 (by decide)) rfl ?_
  refine Wk.iconst (n := 0) (q := 58) (by decide +kernel) rfl ?_
  refine Wk.aload_n (k := 0) (q := 59) (by decide +kernel) rfl rfl rfl ?_
  refine Wk.getR (r := (t + 1)) (q := 62) f_Harb_9 (by decide +kernel) hT.1 (by decide) rfl (hT.2.1 0 (by decide)) rfl ?_
  refine Wk.alen (q := 63) (by decide +kernel) hT.2.2.1 rfl rfl ?_
  refine Wk.arraycopy (q := 66) ac_Harb_53 (by decide +kernel) hS.2.2.1 hT.2.2.1 (by omega) (by omega) (by omega) (by omega) (by omega) (Nat.le_of_ble_eq_true rfl) rfl ?_
  refine Wk.aload_n (k := 1) (q := 67) (by decide +kernel) rfl rfl rfl ?_
  refine Wk.getR (r := (s + 2)) (q := 70) f_Harb_15 (by decide +kernel) hS.1 (by decide) rfl (hS.2.1 1 (by decide)) rfl ?_
  refine Wk.iconst (n := 0) (q := 71) (by decide +kernel) rfl ?_
  refine Wk.aload_n (k := 0) (q := 72) (by decide +kernel) rfl rfl rfl ?_
  refine Wk.getR (r := (t + 2)) (q := 75) f_Harb_15 (by decide +kernel) hT.1 (by decide) rfl (hT.2.1 1 (by decide)) rfl ?_
  refine Wk.iconst (n := 0) (q := 76) (by decide +kernel) rfl ?_
  refine Wk.bipush (n := 8) (q := 78) (by decide +kernel) (by decide +kernel) rfl ?_
  refine Wk.arraycopy (q := 81) ac_Harb_53 (by decide +kernel) hS.2.2.2.1 hT.2.2.2.1 (by omega) (by omega) (by omega) (by omega) (by omega) (Nat.le_of_ble_eq_true rfl) rfl ?_
  refine Wk.aload_n (k := 1) (q := 82) (by decide +kernel) rfl rfl rfl ?_
  refine Wk.getR (r := (s + 3)) (q := 85) f_Harb_18 (by decide +kernel) hS.1 (by decide) rfl (hS.2.1 2 (by decide)) rfl ?_
  refine Wk.iconst (n := 0) (q := 86) (by decide +kernel) rfl ?_
  refine Wk.aload_n (k := 0) (q := 87) (by decide +kernel) rfl rfl rfl ?_
  refine Wk.getR (r := (t + 3)) (q := 90) f_Harb_18 (by decide +kernel) hT.1 (by decide) rfl (hT.2.1 2 (by decide)) rfl ?_
  refine Wk.iconst (n := 0) (q := 91) (by decide +kernel) rfl ?_
  refine Wk.bipush (n := 8) (q := 93) (by decide +kernel) (by decide +kernel) rfl ?_
  refine Wk.arraycopy (q := 96) ac_Harb_53 (by decide +kernel) hS.2.2.2.2.1 hT.2.2.2.2.1 (by omega) (by omega) (by omega) (by omega) (by omega) (Nat.le_of_ble_eq_true rfl) rfl ?_
  refine Wk.aload_n (k := 1) (q := 97) (by decide +kernel) rfl rfl rfl ?_
  refine Wk.getR (r := (s + 4)) (q := 100) f_Harb_21 (by decide +kernel) hS.1 (by decide) rfl (hS.2.1 3 (by decide)) rfl ?_
  refine Wk.iconst (n := 0) (q := 101) (by decide +kernel) rfl ?_
  refine Wk.aload_n (k := 0) (q := 102) (by decide +kernel) rfl rfl rfl ?_
  refine Wk.getR (r := (t + 4)) (q := 105) f_Harb_21 (by decide +kernel) hT.1 (by decide) rfl (hT.2.1 3 (by decide)) rfl ?_
  refine Wk.iconst (n := 0) (q := 106) (by decide +kernel) rfl ?_
  refine Wk.bipush (n := 8) (q := 108) (by decide +kernel) (by decide +kernel) rfl ?_
  refine Wk.arraycopy (q := 111) ac_Harb_53 (by decide +kernel) hS.2.2.2.2.2.1 hT.2.2.2.2.2.1 (by omega) (by omega) (by omega) (by omega) (by omega) (Nat.le_of_ble_eq_true rfl) rfl ?_
  refine Wk.aload_n (k := 1) (q := 112) (by decide +kernel) rfl rfl rfl ?_
  refine Wk.getR (r := (s + 5)) (q := 115) f_Harb_24 (by decide +kernel) hS.1 (by decide) rfl (hS.2.1 4 (by decide)) rfl ?_
  refine Wk.iconst (n := 0) (q := 116) (by decide +kernel) rfl ?_
  refine Wk.aload_n (k := 0) (q := 117) (by decide +kernel) rfl rfl rfl ?_
  refine Wk.getR (r := (t + 5)) (q := 120) f_Harb_24 (by decide +kernel) hT.1 (by decide) rfl (hT.2.1 4 (by decide)) rfl ?_
  refine Wk.iconst (n := 0) (q := 121) (by decide +kernel) rfl ?_
  refine Wk.bipush (n := 8) (q := 123) (by decide +kernel) (by decide +kernel) rfl ?_
  refine Wk.arraycopy (q := 126) ac_Harb_53 (by decide +kernel) hS.2.2.2.2.2.2.1 hT.2.2.2.2.2.2.1 (by omega) (by omega) (by omega) (by omega) (by omega) (Nat.le_of_ble_eq_true rfl) rfl ?_
  refine Wk.aload_n (k := 1) (q := 127) (by decide +kernel) rfl rfl rfl ?_
  refine Wk.getR (r := (s + 6)) (q := 130) f_Harb_27 (by decide +kernel) hS.1 (by decide) rfl (hS.2.1 5 (by decide)) rfl ?_
  refine Wk.iconst (n := 0) (q := 131) (by decide +kernel) rfl ?_
  refine Wk.aload_n (k := 0) (q := 132) (by decide +kernel) rfl rfl rfl ?_
  refine Wk.getR (r := (t + 6)) (q := 135) f_Harb_27 (by decide +kernel) hT.1 (by decide) rfl (hT.2.1 5 (by decide)) rfl ?_
  refine Wk.iconst (n := 0) (q := 136) (by decide +kernel) rfl ?_
  refine Wk.bipush (n := 8) (q := 138) (by decide +kernel) (by decide +kernel) rfl ?_
  refine Wk.arraycopy (q := 141) ac_Harb_53 (by decide +kernel) hS.2.2.2.2.2.2.2 hT.2.2.2.2.2.2.2 (by omega) (by omega) (by omega) (by omega) (by omega) (Nat.le_of_ble_eq_true rfl) rfl ?_
  exact Wk.rvP (by decide +kernel) rfl (⟨rfl, HC.step (j := 5) (HC.step (j := 4) (HC.step (j := 3) (HC.step (j := 2) (HC.step (j := 1) (HC.step (j := 0) (HC.nil (HF.step (HF.step (HF.step (HF.step (HF.step (HF.step (k := 0) (I' := I) ⟨fun b b0 b1 => by omega, fun _ _ => rfl⟩ hs (by decide)) hs (by decide)) hs (by decide)) hs (by decide)) hs (by decide)) hs (by decide))) (by decide) (by decide) hd) (by decide) (by decide) hd) (by decide) (by decide) hd) (by decide) (by decide) hd) (by decide) (by decide) hd) (by decide) (by decide) hd, rfl⟩)
theorem c_Hist_remember (h0 : 0 ≤ I 8 1 ∧ I 8 1 < 16) (h1 : 0 ≤ I 8 2 ∧ I 8 2 ≤ 16) : Wk xs x_Hist_remember (d + 2) 0 0 0 [some (vr 8), some (vr 1)] [] X2 I L (p2 fun v I' L' => v = none ∧ (∃ I1, HC I 1 (10 + 7 * (I 8 1).toNat) 6 I1 ∧ I' = iup (iup I1 8 1 ((I 8 1 + 1) % 16)) 8 2 (min (I 8 2 + 1) 16)) ∧ L' = L) := by
  have hn : (I 8 1).toNat < 16 := by omega
  refine Wk.aload_n (k := 0) (q := 1) (by decide +kernel) rfl rfl rfl ?_
  refine Wk.getR (r := 9) (q := 4) f_Hist_11 (by decide +kernel) O_8 (by decide) rfl rfl rfl ?_
  refine Wk.aload_n (k := 0) (q := 5) (by decide +kernel) rfl rfl rfl ?_
  refine Wk.getI (z := 1) (q := 8) f_Hist_18 (by decide +kernel) O_8 (by decide) rfl rfl rfl ?_
  refine Wk.aaload (r := 10 + 7 * (I 8 1).toNat) (q := 9) (by decide +kernel) A_9 (by decide) (by first | omega | exact bi_rng _) (by first | omega | exact bi_rng _) (R9 _ hn) rfl ?_
  refine Wk.aload_n (k := 1) (q := 10) (by decide +kernel) rfl rfl rfl ?_
  refine Wk.cV (q := 13) l_Hist_22 m_Harb_copyFrom (by decide +kernel) (fun _ h => h) (HOK_h _ hn).1 rfl (Nat.le_of_ble_eq_true rfl) (Nat.le_of_ble_eq_true rfl) rfl (c_Harb_copyFrom (HOK_h _ hn) HOK_1 (by omega)) rfl (fun v I1 L1 hP => ?_)
  obtain ⟨rfl, hH, rfl⟩ := hP
  have e8 := hH.2.2 8 (by omega)
  refine Wk.aload_n (k := 0) (q := 14) (by decide +kernel) rfl rfl rfl ?_
  refine Wk.aload_n (k := 0) (q := 15) (by decide +kernel) rfl rfl rfl ?_
  refine Wk.getI (z := 1) (q := 18) f_Hist_18 (by decide +kernel) O_8 (by decide) rfl rfl rfl ?_
  rw [e8]
  refine Wk.iconst (n := 1) (q := 19) (by decide +kernel) rfl ?_
  refine Wk.iadd (q := 20) (by decide +kernel) rfl ?_
  refine Wk.bipush (n := 16) (q := 22) (by decide +kernel) (by decide +kernel) rfl ?_
  refine Wk.irem (q := 23) (by decide +kernel) (by first | omega | exact bi_rng _) (by first | omega | exact bi_rng _) rfl ?_
  refine Wk.putI (z := 1) (q := 26) f_Hist_18 fw_Hist_1 (by decide +kernel) O_8 (by decide) rfl rfl ⟨rfl, rfl⟩ rfl ?_
  refine Wk.aload_n (k := 0) (q := 27) (by decide +kernel) rfl rfl rfl ?_
  refine Wk.aload_n (k := 0) (q := 28) (by decide +kernel) rfl rfl rfl ?_
  refine Wk.getI (z := 2) (q := 31) f_Hist_26 (by decide +kernel) O_8 (by decide) rfl rfl rfl ?_
  rw [iup_ne (by omega), e8]
  refine Wk.iconst (n := 1) (q := 32) (by decide +kernel) rfl ?_
  refine Wk.iadd (q := 33) (by decide +kernel) rfl ?_
  refine Wk.bipush (n := 16) (q := 35) (by decide +kernel) (by decide +kernel) rfl ?_
  refine Wk.min (q := 38) l_Hist_29 (by decide +kernel) (by first | omega | exact bi_rng _) (by first | omega | exact bi_rng _) (Nat.le_of_ble_eq_true rfl) rfl ?_
  rw [show (if (16 : Int) < I 8 2 + 1 then (16 : Int) else I 8 2 + 1) = min (I 8 2 + 1) 16 by split <;> omega]
  refine Wk.putI (z := 2) (q := 41) f_Hist_26 fw_Hist_2 (by decide +kernel) O_8 (by decide) rfl rfl ⟨rfl, rfl⟩ rfl ?_
  exact Wk.rvP (by decide +kernel) rfl (⟨rfl, ⟨I1, hH, rfl⟩, rfl⟩)
theorem c_Hist_forget : Wk xs x_Hist_forget d 0 0 0 [some (vr 8)] [] X2 I L (pV (iup I 8 2 0) L) := by
  refine Wk.aload_n (k := 0) (q := 1) (by decide +kernel) rfl rfl rfl ?_
  refine Wk.iconst (n := 0) (q := 2) (by decide +kernel) rfl ?_
  refine Wk.putI (z := 2) (q := 5) f_Hist_26 fw_Hist_2 (by decide +kernel) O_8 (by decide) rfl rfl ⟨rfl, rfl⟩ rfl ?_
  exact Wk.rV (by decide +kernel) rfl (rfl) rfl
theorem c_Book_add {a c : Int} (h0 : 0 ≤ I 128 2) (h1 : I 128 2 < 20) : Wk xs x_Book_add d 0 0 0 [some (vr 128), some (vi a), some (vi c)] [] X2 I L (pV (iup (iup (iup I 129 (I 128 2) a) 130 (I 128 2) c) 128 2 (I 128 2 + 1)) L) := by
  refine Wk.aload_n (k := 0) (q := 1) (by decide +kernel) rfl rfl rfl ?_
  refine Wk.getI (z := 2) (q := 4) f_Book_18 (by decide +kernel) O_128 (by decide) rfl rfl rfl ?_
  refine Wk.bipush (n := 20) (q := 6) (by decide +kernel) (by decide +kernel) rfl ?_
  refine Wk.icmp_ge (off := (33)) (t := 39) (q := 9) (by decide +kernel) (by decide) rfl (by first | omega | exact bi_rng _) (by first | omega | exact bi_rng _) (fun hc6 => ?_) (fun hc6 => ?_)
  · exact Wk.rV (by decide +kernel) rfl (by first | omega | rfl) rfl
  · refine Wk.aload_n (k := 0) (q := 10) (by decide +kernel) rfl rfl rfl ?_
    refine Wk.getR (r := 129) (q := 13) f_Book_9 (by decide +kernel) O_128 (by decide) rfl rfl rfl ?_
    refine Wk.aload_n (k := 0) (q := 14) (by decide +kernel) rfl rfl rfl ?_
    refine Wk.getI (z := 2) (q := 17) f_Book_18 (by decide +kernel) O_128 (by decide) rfl rfl rfl ?_
    refine Wk.iload_n (k := 1) (q := 18) (by decide +kernel) rfl rfl rfl ?_
    refine Wk.iastore (q := 19) (by decide +kernel) A_129 (by first | omega | exact bi_rng _) (by first | omega | exact bi_rng _) rfl ?_
    refine Wk.aload_n (k := 0) (q := 20) (by decide +kernel) rfl rfl rfl ?_
    refine Wk.getR (r := 130) (q := 23) f_Book_15 (by decide +kernel) O_128 (by decide) rfl rfl rfl ?_
    refine Wk.aload_n (k := 0) (q := 24) (by decide +kernel) rfl rfl rfl ?_
    refine Wk.getI (z := 2) (q := 27) f_Book_18 (by decide +kernel) O_128 (by decide) rfl rfl rfl ?_
    rw [iup_ne (by omega)]
    refine Wk.iload_n (k := 2) (q := 28) (by decide +kernel) rfl rfl rfl ?_
    refine Wk.iastore (q := 29) (by decide +kernel) A_130 (by first | omega | exact bi_rng _) (by first | omega | exact bi_rng _) rfl ?_
    refine Wk.aload_n (k := 0) (q := 30) (by decide +kernel) rfl rfl rfl ?_
    refine Wk.dup (q := 31) (by decide +kernel) rfl rfl ?_
    refine Wk.getI (z := 2) (q := 34) f_Book_18 (by decide +kernel) O_128 (by decide) rfl rfl rfl ?_
    rw [iup_ne (by omega), iup_ne (by omega)]
    refine Wk.iconst (n := 1) (q := 35) (by decide +kernel) rfl ?_
    refine Wk.iadd (q := 36) (by decide +kernel) rfl ?_
    refine Wk.putI (z := 2) (q := 39) f_Book_18 fw_Book_2 (by decide +kernel) O_128 (by decide) rfl rfl ⟨rfl, rfl⟩ rfl ?_
    exact Wk.rV (by decide +kernel) rfl (by first | omega | rfl) rfl
theorem c_Book_firstWrong (hC : CW I) (hB : 0 ≤ I 128 2 ∧ I 128 2 ≤ 20) (hB1 : ∀ k, 0 ≤ k → k < I 128 2 → (0 ≤ I 129 k ∧ I 129 k ≤ 4) ∧ -2147483648 ≤ I 130 k ∧ I 130 k ≤ 2147483647) : Wk xs x_Book_firstWrong (d + 1) 0 0 0 [some (vr 128), some (vr 1), none, none] [] X2 I L (p2 fun v I' L' => (∃ z, v = some (vi z) ∧ Fst (fun k => ¬ (0 ≤ I 129 k ∧ I 129 k < I 1 4) ∨ ¬ I 7 (I 129 k) * I 1 0 + I 6 (I 129 k) = I 130 k) (I 128 2) z) ∧ I' = I ∧ L' = L) := by
  obtain ⟨⟨hW, hH, -, -, hA, -, -⟩, hS, hP⟩ := id hC
  have key : Wk xs x_Book_firstWrong (d + 1) 0 0 2 [some (vr 128), some (vr 1), some (vi 0), none] [] X2 I L (p2 fun v I' L' => (∃ z, v = some (vi z) ∧ Fst (fun k => ¬ (0 ≤ I 129 k ∧ I 129 k < I 1 4) ∨ ¬ I 7 (I 129 k) * I 1 0 + I 6 (I 129 k) = I 130 k) (I 128 2) z) ∧ I' = I ∧ L' = L) := by
    refine loopS (σ := Option AV) (fun k o => Wk xs x_Book_firstWrong (d + 1) 0 0 2 [some (vr 128), some (vr 1), some (vi k), o] [] X2 I L (p2 fun v I' L' => (∃ z, v = some (vi z) ∧ Fst (fun k => ¬ (0 ≤ I 129 k ∧ I 129 k < I 1 4) ∨ ¬ I 7 (I 129 k) * I 1 0 + I 6 (I 129 k) = I 130 k) (I 128 2) z) ∧ I' = I ∧ L' = L)) (fun j _ => ∀ k, 0 ≤ k → k < j → ¬ (¬ (0 ≤ I 129 k ∧ I 129 k < I 1 4) ∨ ¬ I 7 (I 129 k) * I 1 0 + I 6 (I 129 k) = I 130 k)) (I 128 2) 0 none (by omega) (fun k k0 k1 => by omega) ?_ ?_
    · intro o hJ
      refine Wk.iload_n (k := 2) (q := 3) (by decide +kernel) rfl rfl rfl ?_
      refine Wk.aload_n (k := 0) (q := 4) (by decide +kernel) rfl rfl rfl ?_
      refine Wk.getI (z := 2) (q := 7) f_Book_18 (by decide +kernel) O_128 (by decide) rfl rfl rfl ?_
      refine Wk.icmp_ge (off := (51)) (t := 58) (q := 10) (by decide +kernel) (by decide) rfl (by first | omega | exact bi_rng _) (by first | omega | exact bi_rng _) (fun hc7 => ?_) (fun hc7 => ?_)
      · refine Wk.iconst (n := (-1)) (q := 59) (by decide +kernel) rfl ?_
        exact Wk.riP (by decide +kernel) rfl (⟨⟨_, rfl, Or.inl ⟨rfl, hJ⟩⟩, rfl, rfl⟩)
      · omega
    · intro k o k0 k1 hJ ih
      obtain ⟨hb1, hb2⟩ := hB1 k k0 k1
      have hcell : 0 ≤ I 129 k ∧ I 129 k < I 1 4 → 0 ≤ I 7 (I 129 k) * I 1 0 + I 6 (I 129 k) ∧ I 7 (I 129 k) * I 1 0 + I 6 (I 129 k) < 50 := fun z => by
        obtain ⟨q1, q2⟩ := hP _ z.1 z.2
        have := cellB (W := I 1 0) (H := I 1 1) q1 q2
        have h49 := WH49 (W := I 1 0) (H := I 1 1) (by omega) (by omega)
        omega
      refine Wk.iload_n (k := 2) (q := 3) (by decide +kernel) rfl rfl rfl ?_
      refine Wk.aload_n (k := 0) (q := 4) (by decide +kernel) rfl rfl rfl ?_
      refine Wk.getI (z := 2) (q := 7) f_Book_18 (by decide +kernel) O_128 (by decide) rfl rfl rfl ?_
      refine Wk.icmp_ge (off := (51)) (t := 58) (q := 10) (by decide +kernel) (by decide) rfl (by first | omega | exact bi_rng _) (by first | omega | exact bi_rng _) (fun hc7 => ?_) (fun hc7 => ?_)
      · refine Wk.iconst (n := (-1)) (q := 59) (by decide +kernel) rfl ?_
        exact Wk.riP (by decide +kernel) rfl (by first | omega | exact ⟨⟨_, rfl, Or.inr ⟨by omega, (by first | exact Or.inl hc22 | exact Or.inr hc47), hJ⟩⟩, rfl, rfl⟩)
      · refine Wk.aload_n (k := 0) (q := 11) (by decide +kernel) rfl rfl rfl ?_
        refine Wk.getR (r := 129) (q := 14) f_Book_9 (by decide +kernel) O_128 (by decide) rfl rfl rfl ?_
        refine Wk.iload_n (k := 2) (q := 15) (by decide +kernel) rfl rfl rfl ?_
        refine Wk.iaload (q := 16) (by decide +kernel) A_129 (by first | omega | exact bi_rng _) (by first | omega | exact bi_rng _) rfl ?_
        refine Wk.istore_n (k := 3) (q := 17) (by decide +kernel) rfl (by decide) rfl (fun _ h => h) rfl ?_
        refine Wk.aload_n (k := 1) (q := 18) (by decide +kernel) rfl rfl rfl ?_
        refine Wk.iload_n (k := 3) (q := 19) (by decide +kernel) rfl rfl rfl ?_
        refine Wk.cVi (q := 22) l_Book_22 m_Harb_hasAnchored (by decide +kernel) (fun _ h => h) O_1 rfl (Nat.le_of_ble_eq_true rfl) (Nat.le_of_ble_eq_true rfl) rfl (c_Harb_hasAnchored (by omega) hA) rfl ?_
        refine Wk.ifB_eq (off := (28)) (t := 50) (q := 25) (by decide +kernel) (by decide) rfl (fun hc22 => ?_) (fun hc22 => ?_)
        · refine Wk.iload_n (k := 2) (q := 51) (by decide +kernel) rfl rfl rfl ?_
          exact Wk.riP (by decide +kernel) rfl (by first | omega | exact ⟨⟨_, rfl, Or.inr ⟨by omega, (by first | exact Or.inl hc22 | exact Or.inr hc47), hJ⟩⟩, rfl, rfl⟩)
        · refine Wk.aload_n (k := 1) (q := 26) (by decide +kernel) rfl rfl rfl ?_
          refine Wk.aload_n (k := 1) (q := 27) (by decide +kernel) rfl rfl rfl ?_
          refine Wk.getR (r := 6) (q := 30) f_Book_28 (by decide +kernel) O_1 (by decide) rfl rfl rfl ?_
          refine Wk.iload_n (k := 3) (q := 31) (by decide +kernel) rfl rfl rfl ?_
          refine Wk.iaload (q := 32) (by decide +kernel) A_6 (by first | omega | exact bi_rng _) (by first | omega | exact bi_rng _) rfl ?_
          refine Wk.aload_n (k := 1) (q := 33) (by decide +kernel) rfl rfl rfl ?_
          refine Wk.getR (r := 7) (q := 36) f_Book_31 (by decide +kernel) O_1 (by decide) rfl rfl rfl ?_
          refine Wk.iload_n (k := 3) (q := 37) (by decide +kernel) rfl rfl rfl ?_
          refine Wk.iaload (q := 38) (by decide +kernel) A_7 (by first | omega | exact bi_rng _) (by first | omega | exact bi_rng _) rfl ?_
          refine Wk.cVi (q := 41) l_Book_34 m_Harb_cellAt (by decide +kernel) (fun _ h => h) O_1 rfl (Nat.le_of_ble_eq_true rfl) (Nat.le_of_ble_eq_true rfl) rfl (c_Harb_cellAt) rfl ?_
          refine Wk.aload_n (k := 0) (q := 42) (by decide +kernel) rfl rfl rfl ?_
          refine Wk.getR (r := 130) (q := 45) f_Book_15 (by decide +kernel) O_128 (by decide) rfl rfl rfl ?_
          refine Wk.iload_n (k := 2) (q := 46) (by decide +kernel) rfl rfl rfl ?_
          refine Wk.iaload (q := 47) (by decide +kernel) A_130 (by first | omega | exact bi_rng _) (by first | omega | exact bi_rng _) rfl ?_
          refine Wk.icmp_eq (off := (5)) (t := 52) (q := 50) (by decide +kernel) (by decide) rfl (by first | omega | exact bi_rng _) (by first | omega | exact bi_rng _) (fun hc47 => ?_) (fun hc47 => ?_)
          · refine Wk.iinc (i := 2) (n := 1) (q := 55) (by decide +kernel) rfl (by decide) rfl (fun _ h => h) rfl ?_
            refine Wk.goto (off := (-53)) (q := 2) (by decide +kernel) (by decide) ?_
            exact ih _ (ext1 hJ (fun z => z.elim (fun z => z hc22) (fun z => z hc47)))
          · refine Wk.iload_n (k := 2) (q := 51) (by decide +kernel) rfl rfl rfl ?_
            exact Wk.riP (by decide +kernel) rfl (by first | omega | exact ⟨⟨_, rfl, Or.inr ⟨by omega, (by first | exact Or.inl hc22 | exact Or.inr hc47), hJ⟩⟩, rfl, rfl⟩)
  refine Wk.iconst (n := 0) (q := 1) (by decide +kernel) rfl ?_
  refine Wk.istore_n (k := 2) (q := 2) (by decide +kernel) rfl (by decide) rfl (fun _ h => h) rfl ?_
  exact key
end CPY
