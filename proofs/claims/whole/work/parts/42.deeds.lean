/-! DEEDS: what the class and the reference do -/
def RemC (I Ia : IM) : Prop := Ia 8 1 = (I 8 1 + 1) % 16 ∧ Ia 8 2 = min (I 8 2 + 1) 16 ∧ ((∀ k, 0 ≤ k → k < 6 → Ia (10 + 7 * (I 8 1).toNat) k = I 1 k) ∧ (∀ k, 0 ≤ k → k < 49 → Ia (10 + 7 * (I 8 1).toNat + 1) k = I 2 k) ∧ ∀ (j : Nat) k, 2 ≤ j → j ≤ 6 → 0 ≤ k → k < 8 → Ia (10 + 7 * (I 8 1).toNat + j) k = I (1 + j) k) ∧ ∀ c, ¬ c = 8 → (c < 10 + 7 * (I 8 1).toNat ∨ 10 + 7 * (I 8 1).toNat + 6 < c) → Ia c = I c
theorem RemC.of {I J : IM} (h : HC I 1 (10 + 7 * (I 8 1).toNat) 6 J) : RemC I (iup (iup J 8 1 ((I 8 1 + 1) % 16)) 8 2 (min (I 8 2 + 1) 16)) := by
  obtain ⟨h1, h2, h3⟩ := h
  refine ⟨?_, iup_at _ _ _ _, ⟨fun k k0 k1 => ?_, fun k k0 k1 => ?_, fun j k j0 j1 k0 k1 => ?_⟩, fun c c0 c1 => ?_⟩
  · rw [iup_ne (by omega), iup_at]
  · rw [iup_other (by omega), iup_other (by omega)]
    exact h1 k k0 k1
  · rw [iup_other (by omega), iup_other (by omega)]
    exact h2 1 k (by decide) (by decide) k0 (by show k < HLen 1; unfold HLen; rw [if_pos rfl]; exact k1)
  · rw [iup_other (by omega), iup_other (by omega)]
    exact h2 j k (by omega) j1 k0 (by unfold HLen; rw [if_neg (by omega)]; exact k1)
  · rw [iup_other c0, iup_other c0]
    exact h3 c c1
theorem RemC.lo {I Ia : IM} (h : RemC I Ia) {c : Nat} (hc : c ≤ 7) : Ia c = I c := h.2.2.2 c (by omega) (by omega)
theorem RemC.hi {I Ia : IM} (h : RemC I Ia) (hn : 0 ≤ I 8 1 ∧ I 8 1 < 16) {c : Nat} (hc : 122 ≤ c) : Ia c = I c := h.2.2.2 c (by omega) (by omega)
/-- a deed that both remember: only what is so now has to be looked at -/
theorem deed {I Ia I1 I2 : IM} (h : Inv I) (hr : RemC I Ia) (h1 : ∀ c, (c < 1 ∨ 7 < c) → I1 c = Ia c) (h2 : ∀ c, (c < 148 ∨ c = 150 ∨ c = 151 ∨ c = 152) → I2 c = I1 c) (h3 : ∀ b, ¬ b = 11 → I2 148 b = remM I1 148 b) (h4 : ∀ b, 90 ≤ b → b < 1710 → I2 149 b = remM I1 149 b) (hc : Cur I2) : Inv I2 := by
  obtain ⟨n1, n2, n3, n4⟩ := id h.2.1
  have a148 : I1 148 = I 148 := (h1 148 (by omega)).trans (hr.hi n1 (by omega))
  have a149 : I1 149 = I 149 := (h1 149 (by omega)).trans (hr.hi n1 (by omega))
  have low : ∀ c, 7 < c → c < 148 → I2 c = Ia c := fun c q0 q1 => (h2 c (by omega)).trans (h1 c (by omega))
  have hw : ∀ b, 90 ≤ b → b < 1710 → I2 149 b = remW (I 148 1) (I 149) b := fun b b0 b1 => by
    rw [h4 b b0 b1]
    show (if 149 = 149 then remW (I1 148 1) (I1 149) b else _) = _
    rw [if_pos rfl, a148, a149]
  have e1 : I2 148 1 = min (I 148 1 + 1) 16 := by
    rw [h3 1 (by decide)]
    show (if 148 = 149 then _ else if 148 = 148 ∧ (1 : Int) = 1 then min (I1 148 1 + 1) 16 else _) = _
    rw [if_neg (by decide), if_pos ⟨rfl, rfl⟩, a148]
  refine Inv_deed h hc (Hst_rem h.2.1 h.1 ?_ ?_ e1 (fun k k0 k1 => ?_) (fun k k0 k1 => ?_) (fun j k j0 j1 k0 k1 => ?_) (fun c c0 c1 c2 => ?_) (fun b b0 b1 => hw b b0 (by omega))) ⟨?_, fun c c0 c1 => ?_, fun b b0 b1 => ?_, fun b b0 b1 => ?_, ?_, ?_, ?_⟩
  · rw [low 8 (by omega) (by omega)]; exact hr.1
  · rw [low 8 (by omega) (by omega)]; exact hr.2.1
  · rw [low _ (by omega) (by omega)]; exact hr.2.2.1.1 k k0 k1
  · rw [low _ (by omega) (by omega)]; exact hr.2.2.1.2.1 k k0 k1
  · rw [low _ (by omega) (by omega)]; exact hr.2.2.1.2.2 j k j0 j1 k0 k1
  · rw [low c (by omega) (by omega)]; exact hr.2.2.2 c (by omega) c2
  · rw [h2 0 (by omega), h1 0 (by omega)]; exact hr.lo (by omega)
  · rw [low c (by omega) (by omega)]; exact hr.hi n1 (by omega)
  · rw [h3 b b1]
    show (if 148 = 149 then _ else if 148 = 148 ∧ b = 1 then _ else I1 148 b) = _
    rw [if_neg (by decide), if_neg (fun z => b0 z.2), a148]
  · rw [hw b (by omega) b1]
    exact remW_lo (by omega) (Or.inr b0)
  · rw [h2 150 (by omega), h1 150 (by omega)]; exact hr.hi n1 (by omega)
  · rw [h2 151 (by omega), h1 151 (by omega)]; exact hr.hi n1 (by omega)
  · rw [h2 152 (by omega), h1 152 (by omega)]; exact hr.hi n1 (by omega)
/-- cells that only searches write -/
theorem Cur_eq {I I2 : IM} (h : ∀ c, c ≤ 7 → I2 c = I c) (h9 : I2 149 = I 149) (hc : Cur I) : Cur I2 := by
  unfold Cur CW CI0 CI1 CI2 HRc Slot1 at *
  rw [h 1 (by decide), h 2 (by decide), h 3 (by decide), h 4 (by decide), h 5 (by decide), h 6 (by decide), h 7 (by decide), h9]
  exact hc
theorem Hst_eq {I I2 : IM} (h : ∀ c, 8 ≤ c → c < 122 → I2 c = I c) (h8 : I2 148 1 = I 148 1) (h9 : I2 149 = I 149) (hc : Hst I) : Hst I2 := by
  obtain ⟨n1, n2, n3, n4⟩ := hc
  have e8 := h 8 (by omega) (by omega)
  refine ⟨by rw [e8]; exact n1, by rw [e8]; exact n2, by rw [e8, h8]; exact n3, fun j j0 j1 => ?_⟩
  rw [e8] at j1 ⊢
  exact HB_same (n4 j j0 j1) (fun i hi => h _ (by omega) (by omega)) (fun k _ _ => by rw [h9])
theorem Inv_frs {I I2 : IM} (h : FrS I2 I) (hi : Inv I) : Inv I2 := by
  have e : ∀ c, (c < 122 ∨ 124 < c) → I2 c = I c := fun c hc => h c (by omega) (by omega) (by omega)
  exact Inv_deed hi (Cur_eq (fun c hc => e c (by omega)) (e 149 (by omega)) hi.1) (Hst_eq (fun c _ _ => e c (by omega)) (by rw [e 148 (by omega)]) (e 149 (by omega)) hi.2.1) ⟨e 0 (by omega), fun c _ _ => e c (by omega), fun b _ _ => by rw [e 148 (by omega)], fun b _ _ => by rw [e 149 (by omega)], e 150 (by omega), e 151 (by omega), e 152 (by omega)⟩
theorem Inv_kp {I I2 : IM} (h : Kp I2 I) (hi : Inv I) : Inv I2 := by
  have e : ∀ c, (c < 148 ∨ (148 < c ∧ c < 153)) → I2 c = I c := fun c hc => funext fun b => h c b (by omega) (by omega) (by omega) (by omega)
  have e8 : ∀ b, ¬ b = 11 → I2 148 b = I 148 b := fun b hb => h 148 b (by omega) (by omega) (by omega) (fun z => hb z.2)
  exact Inv_deed hi (Cur_eq (fun c hc => e c (by omega)) (e 149 (by omega)) hi.1) (Hst_eq (fun c _ _ => e c (by omega)) (e8 1 (by decide)) (e 149 (by omega)) hi.2.1) ⟨e 0 (by omega), fun c _ _ => e c (by omega), fun b _ hb => e8 b hb, fun b _ _ => by rw [e 149 (by omega)], e 150 (by omega), e 151 (by omega), e 152 (by omega)⟩
section DEE
variable {xs : RO} {d : Nat} {I : IM} {L : LM}

theorem c_Sw_tide {v : Int} (hv : -2147483648 ≤ v ∧ v ≤ 2147483647) (hI : Cur I) (HH : Hst I) : Wk xs x_Sw_tide (d + 4) 0 0 0 [some (vr 0), some (vi v), none] [] X2 I L (p2 fun u I' _ => ∃ z, u = some (vi z) ∧ (((v < -3 ∨ 3 < v) ∧ z = -1000000002 ∧ I' = I) ∨ (¬ (v < -3 ∨ 3 < v) ∧ z = I 1 2 ∧ ∃ Ia, RemC I Ia ∧ I' = iup Ia 1 2 v))) := by
  have hc : Cur I := hI
  have hC : CW I := hc.1
  obtain ⟨hW, hH, hT, hF, hA, hB, hD⟩ := id hC.1
  refine Wk.iload_n (k := 1) (q := 1) (by decide +kernel) rfl rfl rfl ?_
  refine Wk.bipush (n := (-3)) (q := 3) (by decide +kernel) (by decide +kernel) rfl ?_
  refine Wk.iconst (n := 3) (q := 4) (by decide +kernel) rfl ?_
  refine Wk.cSi (q := 7) l_Sw_193 m_Sw_isOut (by decide +kernel) (fun _ h => h) (Nat.le_of_ble_eq_true rfl) (Nat.le_of_ble_eq_true rfl) rfl (c_Sw_isOut hv (by omega) (by omega)) rfl ?_
  refine Wk.ifB_eq (off := (6)) (t := 13) (q := 10) (by decide +kernel) (by decide) rfl (fun hc7 => ?_) (fun hc7 => ?_)
  · refine Wk.aload_n (k := 0) (q := 14) (by decide +kernel) rfl rfl rfl ?_
    refine Wk.getR (r := 1) (q := 17) f_Sw_12 (by decide +kernel) O_0 (by decide) rfl rfl rfl ?_
    refine Wk.getI (z := 2) (q := 20) f_Sw_54 (by decide +kernel) O_1 (by decide) rfl rfl rfl ?_
    refine Wk.istore_n (k := 2) (q := 21) (by decide +kernel) rfl (by decide) rfl (fun _ h => h) rfl ?_
    refine Wk.aload_n (k := 0) (q := 22) (by decide +kernel) rfl rfl rfl ?_
    refine Wk.getR (r := 8) (q := 25) f_Sw_19 (by decide +kernel) O_0 (by decide) rfl rfl rfl ?_
    refine Wk.aload_n (k := 0) (q := 26) (by decide +kernel) rfl rfl rfl ?_
    refine Wk.getR (r := 1) (q := 29) f_Sw_12 (by decide +kernel) O_0 (by decide) rfl rfl rfl ?_
    refine Wk.cV (q := 32) l_Sw_197 m_Hist_remember (by decide +kernel) (fun _ h => h) O_8 rfl (Nat.le_of_ble_eq_true rfl) (Nat.le_of_ble_eq_true rfl) rfl (c_Hist_remember HH.1 HH.2.1) rfl (fun v0 Ia La hP => ?_)
    obtain ⟨rfl, ⟨J, hJ, eA⟩, eL⟩ := hP
    have hRem : RemC I Ia := by rw [eA]; exact RemC.of hJ
    refine Wk.aload_n (k := 0) (q := 33) (by decide +kernel) rfl rfl rfl ?_
    refine Wk.getR (r := 1) (q := 36) f_Sw_12 (by decide +kernel) O_0 (by decide) rfl rfl rfl ?_
    refine Wk.iload_n (k := 1) (q := 37) (by decide +kernel) rfl rfl rfl ?_
    refine Wk.putI (z := 2) (q := 40) f_Sw_54 fw_Harb_2 (by decide +kernel) O_1 (by decide) rfl rfl ⟨rfl, rfl⟩ rfl ?_
    refine Wk.iload_n (k := 2) (q := 41) (by decide +kernel) rfl rfl rfl ?_
    exact Wk.riP (by decide +kernel) rfl (⟨_, rfl, Or.inr ⟨hc7, rfl, Ia, hRem, rfl⟩⟩)
  · refine Wk.ldc (z := (-1000000002)) (q := 12) k_Sw_102 (by decide +kernel) (by decide +kernel) rfl ?_
    exact Wk.riP (by decide +kernel) rfl (⟨_, rfl, Or.inl ⟨hc7, rfl, rfl⟩⟩)
theorem c_Mod_tide {v : Int} (hv : -2147483648 ≤ v ∧ v ≤ 2147483647) (hM : MW I) (hK0 : 0 ≤ I 148 1) (hK1 : I 148 1 ≤ 16) : Wk xs x_Mod_tide (d + 3) 0 0 0 [some (vr 148), some (vi v)] [] X2 I L (p2 fun u I' L' => (∃ z, u = some (vi z) ∧ ((¬ (-3 ≤ v ∧ v ≤ 3) ∧ z = -1000000002 ∧ I' = I) ∨ ((-3 ≤ v ∧ v ≤ 3) ∧ z = I 149 2 ∧ I' = iup (remM I) 149 2 v))) ∧ L' = L) := by
  obtain ⟨hI, hS, hQ⟩ := id hM
  obtain ⟨hW, hH, hT, hF, hA, hK, hD⟩ := id hI
  have h49 := WH49 (W := I 149 0) (H := I 149 1) (by omega) (by omega)
  have hRl : ∀ b, b < 90 → remM I 149 b = I 149 b := fun b hb => by
    show (if 149 = 149 then remW (I 148 1) (I 149) b else _) = _
    rw [if_pos rfl]
    exact remW_lo (by omega) (Or.inl hb)
  refine Wk.iload_n (k := 1) (q := 1) (by decide +kernel) rfl rfl rfl ?_
  refine Wk.bipush (n := (-3)) (q := 3) (by decide +kernel) (by decide +kernel) rfl ?_
  refine Wk.iconst (n := 3) (q := 4) (by decide +kernel) rfl ?_
  refine Wk.cSi (q := 7) l_Mod_36 m_Mod_in (by decide +kernel) (fun _ h => h) (Nat.le_of_ble_eq_true rfl) (Nat.le_of_ble_eq_true rfl) rfl (c_Mod_in hv (by omega) (by omega)) rfl ?_
  refine Wk.ifB_eq (off := (12)) (t := 19) (q := 10) (by decide +kernel) (by decide) rfl (fun hc7 => ?_) (fun hc7 => ?_)
  · refine Wk.ldc (z := (-1000000002)) (q := 21) k_Mod_159 (by decide +kernel) (by decide +kernel) rfl ?_
    exact Wk.riP (by decide +kernel) rfl (by first | exact ⟨⟨_, rfl, Or.inl ⟨hc7, rfl, rfl⟩⟩, rfl⟩ | exact ⟨⟨_, rfl, Or.inr ⟨hc7, hRl 2 (by decide), eA⟩⟩, eL⟩)
  · refine Wk.aload_n (k := 0) (q := 11) (by decide +kernel) rfl rfl rfl ?_
    refine Wk.iconst (n := 2) (q := 12) (by decide +kernel) rfl ?_
    refine Wk.iload_n (k := 1) (q := 13) (by decide +kernel) rfl rfl rfl ?_
    refine Wk.cV (q := 16) l_Mod_191 m_Mod_put (by decide +kernel) (fun _ h => h) O_148 rfl (Nat.le_of_ble_eq_true rfl) (Nat.le_of_ble_eq_true rfl) rfl (c_Mod_put hK0 hK1 (by omega)) rfl (fun v0 Ia La hP => ?_)
    obtain ⟨rfl, eA, eL⟩ := hP
    refine Wk.goto (off := (5)) (q := 21) (by decide +kernel) (by decide) ?_
    exact Wk.riP (by decide +kernel) rfl (by first | exact ⟨⟨_, rfl, Or.inl ⟨hc7, rfl, rfl⟩⟩, rfl⟩ | exact ⟨⟨_, rfl, Or.inr ⟨hc7, hRl 2 (by decide), eA⟩⟩, eL⟩)
theorem c_Sw_winds {v : Int} (hv : -2147483648 ≤ v ∧ v ≤ 2147483647) (hI : Cur I) (HH : Hst I) : Wk xs x_Sw_winds (d + 4) 0 0 0 [some (vr 0), some (vi v), none] [] X2 I L (p2 fun u I' _ => ∃ z, u = some (vi z) ∧ (((v < 1 ∨ 255 < v) ∧ z = -1000000002 ∧ I' = I) ∨ (¬ (v < 1 ∨ 255 < v) ∧ z = I 1 3 ∧ ∃ Ia, RemC I Ia ∧ I' = iup Ia 1 3 v))) := by
  have hc : Cur I := hI
  have hC : CW I := hc.1
  obtain ⟨hW, hH, hT, hF, hA, hB, hD⟩ := id hC.1
  refine Wk.iload_n (k := 1) (q := 1) (by decide +kernel) rfl rfl rfl ?_
  refine Wk.iconst (n := 1) (q := 2) (by decide +kernel) rfl ?_
  refine Wk.sipush (n := 255) (q := 5) (by decide +kernel) (by decide +kernel) rfl ?_
  refine Wk.cSi (q := 8) l_Sw_193 m_Sw_isOut (by decide +kernel) (fun _ h => h) (Nat.le_of_ble_eq_true rfl) (Nat.le_of_ble_eq_true rfl) rfl (c_Sw_isOut hv (by omega) (by omega)) rfl ?_
  refine Wk.ifB_eq (off := (6)) (t := 14) (q := 11) (by decide +kernel) (by decide) rfl (fun hc8 => ?_) (fun hc8 => ?_)
  · refine Wk.aload_n (k := 0) (q := 15) (by decide +kernel) rfl rfl rfl ?_
    refine Wk.getR (r := 1) (q := 18) f_Sw_12 (by decide +kernel) O_0 (by decide) rfl rfl rfl ?_
    refine Wk.getI (z := 3) (q := 21) f_Sw_57 (by decide +kernel) O_1 (by decide) rfl rfl rfl ?_
    refine Wk.istore_n (k := 2) (q := 22) (by decide +kernel) rfl (by decide) rfl (fun _ h => h) rfl ?_
    refine Wk.aload_n (k := 0) (q := 23) (by decide +kernel) rfl rfl rfl ?_
    refine Wk.getR (r := 8) (q := 26) f_Sw_19 (by decide +kernel) O_0 (by decide) rfl rfl rfl ?_
    refine Wk.aload_n (k := 0) (q := 27) (by decide +kernel) rfl rfl rfl ?_
    refine Wk.getR (r := 1) (q := 30) f_Sw_12 (by decide +kernel) O_0 (by decide) rfl rfl rfl ?_
    refine Wk.cV (q := 33) l_Sw_197 m_Hist_remember (by decide +kernel) (fun _ h => h) O_8 rfl (Nat.le_of_ble_eq_true rfl) (Nat.le_of_ble_eq_true rfl) rfl (c_Hist_remember HH.1 HH.2.1) rfl (fun v0 Ia La hP => ?_)
    obtain ⟨rfl, ⟨J, hJ, eA⟩, eL⟩ := hP
    have hRem : RemC I Ia := by rw [eA]; exact RemC.of hJ
    refine Wk.aload_n (k := 0) (q := 34) (by decide +kernel) rfl rfl rfl ?_
    refine Wk.getR (r := 1) (q := 37) f_Sw_12 (by decide +kernel) O_0 (by decide) rfl rfl rfl ?_
    refine Wk.iload_n (k := 1) (q := 38) (by decide +kernel) rfl rfl rfl ?_
    refine Wk.putI (z := 3) (q := 41) f_Sw_57 fw_Harb_3 (by decide +kernel) O_1 (by decide) rfl rfl ⟨rfl, rfl⟩ rfl ?_
    refine Wk.iload_n (k := 2) (q := 42) (by decide +kernel) rfl rfl rfl ?_
    exact Wk.riP (by decide +kernel) rfl (⟨_, rfl, Or.inr ⟨hc8, rfl, Ia, hRem, rfl⟩⟩)
  · refine Wk.ldc (z := (-1000000002)) (q := 13) k_Sw_102 (by decide +kernel) (by decide +kernel) rfl ?_
    exact Wk.riP (by decide +kernel) rfl (⟨_, rfl, Or.inl ⟨hc8, rfl, rfl⟩⟩)
theorem c_Mod_winds {v : Int} (hv : -2147483648 ≤ v ∧ v ≤ 2147483647) (hM : MW I) (hK0 : 0 ≤ I 148 1) (hK1 : I 148 1 ≤ 16) : Wk xs x_Mod_winds (d + 3) 0 0 0 [some (vr 148), some (vi v)] [] X2 I L (p2 fun u I' L' => (∃ z, u = some (vi z) ∧ ((¬ (1 ≤ v ∧ v ≤ 255) ∧ z = -1000000002 ∧ I' = I) ∨ ((1 ≤ v ∧ v ≤ 255) ∧ z = I 149 3 ∧ I' = iup (remM I) 149 3 v))) ∧ L' = L) := by
  obtain ⟨hI, hS, hQ⟩ := id hM
  obtain ⟨hW, hH, hT, hF, hA, hK, hD⟩ := id hI
  have h49 := WH49 (W := I 149 0) (H := I 149 1) (by omega) (by omega)
  have hRl : ∀ b, b < 90 → remM I 149 b = I 149 b := fun b hb => by
    show (if 149 = 149 then remW (I 148 1) (I 149) b else _) = _
    rw [if_pos rfl]
    exact remW_lo (by omega) (Or.inl hb)
  refine Wk.iload_n (k := 1) (q := 1) (by decide +kernel) rfl rfl rfl ?_
  refine Wk.iconst (n := 1) (q := 2) (by decide +kernel) rfl ?_
  refine Wk.sipush (n := 255) (q := 5) (by decide +kernel) (by decide +kernel) rfl ?_
  refine Wk.cSi (q := 8) l_Mod_36 m_Mod_in (by decide +kernel) (fun _ h => h) (Nat.le_of_ble_eq_true rfl) (Nat.le_of_ble_eq_true rfl) rfl (c_Mod_in hv (by omega) (by omega)) rfl ?_
  refine Wk.ifB_eq (off := (12)) (t := 20) (q := 11) (by decide +kernel) (by decide) rfl (fun hc8 => ?_) (fun hc8 => ?_)
  · refine Wk.ldc (z := (-1000000002)) (q := 22) k_Mod_159 (by decide +kernel) (by decide +kernel) rfl ?_
    exact Wk.riP (by decide +kernel) rfl (by first | exact ⟨⟨_, rfl, Or.inl ⟨hc8, rfl, rfl⟩⟩, rfl⟩ | exact ⟨⟨_, rfl, Or.inr ⟨hc8, hRl 3 (by decide), eA⟩⟩, eL⟩)
  · refine Wk.aload_n (k := 0) (q := 12) (by decide +kernel) rfl rfl rfl ?_
    refine Wk.iconst (n := 3) (q := 13) (by decide +kernel) rfl ?_
    refine Wk.iload_n (k := 1) (q := 14) (by decide +kernel) rfl rfl rfl ?_
    refine Wk.cV (q := 17) l_Mod_191 m_Mod_put (by decide +kernel) (fun _ h => h) O_148 rfl (Nat.le_of_ble_eq_true rfl) (Nat.le_of_ble_eq_true rfl) rfl (c_Mod_put hK0 hK1 (by omega)) rfl (fun v0 Ia La hP => ?_)
    obtain ⟨rfl, eA, eL⟩ := hP
    refine Wk.goto (off := (5)) (q := 22) (by decide +kernel) (by decide) ?_
    exact Wk.riP (by decide +kernel) rfl (by first | exact ⟨⟨_, rfl, Or.inl ⟨hc8, rfl, rfl⟩⟩, rfl⟩ | exact ⟨⟨_, rfl, Or.inr ⟨hc8, hRl 3 (by decide), eA⟩⟩, eL⟩)
theorem c_Sw_leave {v : Int} (hv : -2147483648 ≤ v ∧ v ≤ 2147483647) (hI : Cur I) (HH : Hst I) : Wk xs x_Sw_leave (d + 4) 0 0 0 [some (vr 0), some (vi v)] [] X2 I L (p2 fun u I' _ => ∃ z, u = some (vi z) ∧ ((¬ (0 ≤ v ∧ v < I 1 4) ∧ z = -1000000001 ∧ I' = I) ∨ ((0 ≤ v ∧ v < I 1 4) ∧ z = I 1 4 - 1 ∧ ∃ Ia, RemC I Ia ∧ I' = dropA Ia v))) := by
  have hc : Cur I := hI
  have hC : CW I := hc.1
  obtain ⟨hW, hH, hT, hF, hA, hB, hD⟩ := id hC.1
  refine Wk.aload_n (k := 0) (q := 1) (by decide +kernel) rfl rfl rfl ?_
  refine Wk.getR (r := 1) (q := 4) f_Sw_12 (by decide +kernel) O_0 (by decide) rfl rfl rfl ?_
  refine Wk.iload_n (k := 1) (q := 5) (by decide +kernel) rfl rfl rfl ?_
  refine Wk.cVi (q := 8) l_Sw_124 m_Harb_hasAnchored (by decide +kernel) (fun _ h => h) O_1 rfl (Nat.le_of_ble_eq_true rfl) (Nat.le_of_ble_eq_true rfl) rfl (c_Harb_hasAnchored hv hA) rfl ?_
  refine Wk.ifB_ne (off := (6)) (t := 14) (q := 11) (by decide +kernel) (by decide) rfl (fun hc8 => ?_) (fun hc8 => ?_)
  · refine Wk.aload_n (k := 0) (q := 15) (by decide +kernel) rfl rfl rfl ?_
    refine Wk.getR (r := 8) (q := 18) f_Sw_19 (by decide +kernel) O_0 (by decide) rfl rfl rfl ?_
    refine Wk.aload_n (k := 0) (q := 19) (by decide +kernel) rfl rfl rfl ?_
    refine Wk.getR (r := 1) (q := 22) f_Sw_12 (by decide +kernel) O_0 (by decide) rfl rfl rfl ?_
    refine Wk.cV (q := 25) l_Sw_197 m_Hist_remember (by decide +kernel) (fun _ h => h) O_8 rfl (Nat.le_of_ble_eq_true rfl) (Nat.le_of_ble_eq_true rfl) rfl (c_Hist_remember HH.1 HH.2.1) rfl (fun v0 Ia La hP => ?_)
    obtain ⟨rfl, ⟨J, hJ, eA⟩, eL⟩ := hP
    have hRem : RemC I Ia := by rw [eA]; exact RemC.of hJ
    have e1 : Ia 1 = I 1 := hRem.lo (by decide)
    refine Wk.aload_n (k := 0) (q := 26) (by decide +kernel) rfl rfl rfl ?_
    refine Wk.getR (r := 1) (q := 29) f_Sw_12 (by decide +kernel) O_0 (by decide) rfl rfl rfl ?_
    refine Wk.iload_n (k := 1) (q := 30) (by decide +kernel) rfl rfl rfl ?_
    refine Wk.cVv (q := 33) l_Sw_230 m_Harb_dropAnchored (by decide +kernel) (fun _ h => h) O_1 rfl (Nat.le_of_ble_eq_true rfl) (Nat.le_of_ble_eq_true rfl) rfl (c_Harb_dropAnchored hc8.1 (by rw [e1]; exact hc8.2) (by rw [e1]; omega)) rfl ?_
    refine Wk.aload_n (k := 0) (q := 34) (by decide +kernel) rfl rfl rfl ?_
    refine Wk.getR (r := 1) (q := 37) f_Sw_12 (by decide +kernel) O_0 (by decide) rfl rfl rfl ?_
    refine Wk.getI (z := 4) (q := 40) f_Sw_60 (by decide +kernel) O_1 (by decide) rfl rfl rfl ?_
    exact Wk.riP (by decide +kernel) rfl (⟨_, rfl, Or.inr ⟨hc8, (by unfold dropA; rw [iup_at, e1]), Ia, hRem, rfl⟩⟩)
  · refine Wk.ldc (z := (-1000000001)) (q := 13) k_Sw_107 (by decide +kernel) (by decide +kernel) rfl ?_
    exact Wk.riP (by decide +kernel) rfl (⟨_, rfl, Or.inl ⟨hc8, rfl, rfl⟩⟩)
theorem c_Sw_turnAway {v : Int} (hv : -2147483648 ≤ v ∧ v ≤ 2147483647) (hI : Cur I) (HH : Hst I) : Wk xs x_Sw_turnAway (d + 4) 0 0 0 [some (vr 0), some (vi v)] [] X2 I L (p2 fun u I' _ => ∃ z, u = some (vi z) ∧ ((¬ (0 ≤ v ∧ v < I 1 5) ∧ z = -1000000001 ∧ I' = I) ∨ ((0 ≤ v ∧ v < I 1 5) ∧ z = I 1 5 - 1 ∧ ∃ Ia, RemC I Ia ∧ I' = dropW Ia v))) := by
  have hc : Cur I := hI
  have hC : CW I := hc.1
  obtain ⟨hW, hH, hT, hF, hA, hB, hD⟩ := id hC.1
  refine Wk.aload_n (k := 0) (q := 1) (by decide +kernel) rfl rfl rfl ?_
  refine Wk.getR (r := 1) (q := 4) f_Sw_12 (by decide +kernel) O_0 (by decide) rfl rfl rfl ?_
  refine Wk.iload_n (k := 1) (q := 5) (by decide +kernel) rfl rfl rfl ?_
  refine Wk.cVi (q := 8) l_Sw_162 m_Harb_hasWaiting (by decide +kernel) (fun _ h => h) O_1 rfl (Nat.le_of_ble_eq_true rfl) (Nat.le_of_ble_eq_true rfl) rfl (c_Harb_hasWaiting hv hB) rfl ?_
  refine Wk.ifB_ne (off := (6)) (t := 14) (q := 11) (by decide +kernel) (by decide) rfl (fun hc8 => ?_) (fun hc8 => ?_)
  · refine Wk.aload_n (k := 0) (q := 15) (by decide +kernel) rfl rfl rfl ?_
    refine Wk.getR (r := 8) (q := 18) f_Sw_19 (by decide +kernel) O_0 (by decide) rfl rfl rfl ?_
    refine Wk.aload_n (k := 0) (q := 19) (by decide +kernel) rfl rfl rfl ?_
    refine Wk.getR (r := 1) (q := 22) f_Sw_12 (by decide +kernel) O_0 (by decide) rfl rfl rfl ?_
    refine Wk.cV (q := 25) l_Sw_197 m_Hist_remember (by decide +kernel) (fun _ h => h) O_8 rfl (Nat.le_of_ble_eq_true rfl) (Nat.le_of_ble_eq_true rfl) rfl (c_Hist_remember HH.1 HH.2.1) rfl (fun v0 Ia La hP => ?_)
    obtain ⟨rfl, ⟨J, hJ, eA⟩, eL⟩ := hP
    have hRem : RemC I Ia := by rw [eA]; exact RemC.of hJ
    have e1 : Ia 1 = I 1 := hRem.lo (by decide)
    refine Wk.aload_n (k := 0) (q := 26) (by decide +kernel) rfl rfl rfl ?_
    refine Wk.getR (r := 1) (q := 29) f_Sw_12 (by decide +kernel) O_0 (by decide) rfl rfl rfl ?_
    refine Wk.iload_n (k := 1) (q := 30) (by decide +kernel) rfl rfl rfl ?_
    refine Wk.cVv (q := 33) l_Sw_234 m_Harb_dropWaiting (by decide +kernel) (fun _ h => h) O_1 rfl (Nat.le_of_ble_eq_true rfl) (Nat.le_of_ble_eq_true rfl) rfl (c_Harb_dropWaiting hc8.1 (by rw [e1]; exact hc8.2) (by rw [e1]; omega)) rfl ?_
    refine Wk.aload_n (k := 0) (q := 34) (by decide +kernel) rfl rfl rfl ?_
    refine Wk.getR (r := 1) (q := 37) f_Sw_12 (by decide +kernel) O_0 (by decide) rfl rfl rfl ?_
    refine Wk.getI (z := 5) (q := 40) f_Sw_63 (by decide +kernel) O_1 (by decide) rfl rfl rfl ?_
    exact Wk.riP (by decide +kernel) rfl (⟨_, rfl, Or.inr ⟨hc8, (by unfold dropW; rw [iup_at, e1]), Ia, hRem, rfl⟩⟩)
  · refine Wk.ldc (z := (-1000000001)) (q := 13) k_Sw_107 (by decide +kernel) (by decide +kernel) rfl ?_
    exact Wk.riP (by decide +kernel) rfl (⟨_, rfl, Or.inl ⟨hc8, rfl, rfl⟩⟩)
theorem c_Mod_turnAway {v : Int} (hv : -2147483648 ≤ v ∧ v ≤ 2147483647) (hM : MW I) (hK0 : 0 ≤ I 148 1) (hK1 : I 148 1 ≤ 16) : Wk xs x_Mod_turnAway (d + 3) 0 0 0 [some (vr 148), some (vi v)] [] X2 I L (p2 fun u I' L' => (∃ z, u = some (vi z) ∧ ((¬ (0 ≤ v ∧ v < I 149 5) ∧ z = -1000000001 ∧ I' = I) ∨ ((0 ≤ v ∧ v < I 149 5) ∧ z = I 149 5 - 1 ∧ I' = unw (remM I) v))) ∧ L' = L) := by
  obtain ⟨hI, hS, hQ⟩ := id hM
  obtain ⟨hW, hH, hT, hF, hA, hK, hD⟩ := id hI
  have h49 := WH49 (W := I 149 0) (H := I 149 1) (by omega) (by omega)
  have hRl : ∀ b, b < 90 → remM I 149 b = I 149 b := fun b hb => by
    show (if 149 = 149 then remW (I 148 1) (I 149) b else _) = _
    rw [if_pos rfl]
    exact remW_lo (by omega) (Or.inl hb)
  have e5 := hRl 5 (by decide)
  refine Wk.aload_n (k := 0) (q := 1) (by decide +kernel) rfl rfl rfl ?_
  refine Wk.iload_n (k := 1) (q := 2) (by decide +kernel) rfl rfl rfl ?_
  refine Wk.cVi (q := 5) l_Mod_170 m_Mod_isWaiting (by decide +kernel) (fun _ h => h) O_148 rfl (Nat.le_of_ble_eq_true rfl) (Nat.le_of_ble_eq_true rfl) rfl (c_Mod_isWaiting hv hI) rfl ?_
  refine Wk.ifB_ne (off := (6)) (t := 11) (q := 8) (by decide +kernel) (by decide) rfl (fun hc5 => ?_) (fun hc5 => ?_)
  · refine Wk.aload_n (k := 0) (q := 12) (by decide +kernel) rfl rfl rfl ?_
    refine Wk.cVv (q := 15) l_Mod_188 m_Mod_remember (by decide +kernel) (fun _ h => h) O_148 rfl (Nat.le_of_ble_eq_true rfl) (Nat.le_of_ble_eq_true rfl) rfl (c_Mod_remember hK0 hK1) rfl ?_
    refine Wk.aload_n (k := 0) (q := 16) (by decide +kernel) rfl rfl rfl ?_
    refine Wk.iload_n (k := 1) (q := 17) (by decide +kernel) rfl rfl rfl ?_
    refine Wk.cVv (q := 20) l_Mod_198 m_Mod_unwait (by decide +kernel) (fun _ h => h) O_148 rfl (Nat.le_of_ble_eq_true rfl) (Nat.le_of_ble_eq_true rfl) rfl (c_Mod_unwait hc5.1 (by rw [e5]; exact hc5.2) (by rw [e5]; omega)) rfl ?_
    refine Wk.aload_n (k := 0) (q := 21) (by decide +kernel) rfl rfl rfl ?_
    refine Wk.getR (r := 149) (q := 24) f_Mod_7 (by decide +kernel) O_148 (by decide) rfl rfl rfl ?_
    refine Wk.iconst (n := 5) (q := 25) (by decide +kernel) rfl ?_
    refine Wk.iaload (q := 26) (by decide +kernel) A_149 (by first | omega | exact bi_rng _) (by first | omega | exact bi_rng _) rfl ?_
    exact Wk.riP (by decide +kernel) rfl (⟨⟨_, rfl, Or.inr ⟨hc5, (by simp only [unw, shW, true_and]; rw [if_pos trivial, e5]), rfl⟩⟩, rfl⟩)
  · refine Wk.ldc (z := (-1000000001)) (q := 10) k_Mod_160 (by decide +kernel) (by decide +kernel) rfl ?_
    exact Wk.riP (by decide +kernel) rfl (⟨⟨_, rfl, Or.inl ⟨hc5, rfl, rfl⟩⟩, rfl⟩)
theorem c_Mod_leave {v : Int} (hv : -2147483648 ≤ v ∧ v ≤ 2147483647) (hM : MW I) (hK0 : 0 ≤ I 148 1) (hK1 : I 148 1 ≤ 16) : Wk xs x_Mod_leave (d + 3) 0 0 0 [some (vr 148), some (vi v), none] [] X2 I L (p2 fun u I' L' => (∃ z, u = some (vi z) ∧ ((¬ (0 ≤ v ∧ v < I 149 4) ∧ z = -1000000001 ∧ I' = I) ∨ ((0 ≤ v ∧ v < I 149 4) ∧ z = I 149 4 - 1 ∧ I' = lev (remM I) v))) ∧ L' = L) := by
  obtain ⟨hI, hS, hQ⟩ := id hM
  obtain ⟨hW, hH, hT, hF, hA, hK, hD⟩ := id hI
  have h49 := WH49 (W := I 149 0) (H := I 149 1) (by omega) (by omega)
  have hRl : ∀ b, b < 90 → remM I 149 b = I 149 b := fun b hb => by
    show (if 149 = 149 then remW (I 148 1) (I 149) b else _) = _
    rw [if_pos rfl]
    exact remW_lo (by omega) (Or.inl hb)
  have e4 := hRl 4 (by decide)
  have key : 0 ≤ v ∧ v < I 149 4 → Wk xs x_Mod_leave (d + 3) 0 0 30 [some (vr 148), some (vi v), some (vi (55 + 4 * v))] [] X2 (shW (remM I) (55 + 4 * v) (55 + 4 * v) 4 (remM I 149 4 - 1)) L (p2 fun u I' L' => (∃ z, u = some (vi z) ∧ ((¬ (0 ≤ v ∧ v < I 149 4) ∧ z = -1000000001 ∧ I' = I) ∨ ((0 ≤ v ∧ v < I 149 4) ∧ z = I 149 4 - 1 ∧ I' = lev (remM I) v))) ∧ L' = L) := by
    intro hv2
    have e5 : ∀ t, (shW (remM I) (55 + 4 * v) t 4 (remM I 149 4 - 1)) 149 4 = I 149 4 - 1 := fun t => by simp only [shW, true_and]; rw [if_pos trivial, e4]
    refine loopI (fun t => Wk xs x_Mod_leave (d + 3) 0 0 30 [some (vr 148), some (vi v), some (vi t)] [] X2 (shW (remM I) (55 + 4 * v) t 4 (remM I 149 4 - 1)) L (p2 fun u I' L' => (∃ z, u = some (vi z) ∧ ((¬ (0 ≤ v ∧ v < I 149 4) ∧ z = -1000000001 ∧ I' = I) ∨ ((0 ≤ v ∧ v < I 149 4) ∧ z = I 149 4 - 1 ∧ I' = lev (remM I) v))) ∧ L' = L)) (55 + 4 * (I 149 4 - 1)) (55 + 4 * v) (by omega) ?_ ?_
    · refine Wk.iload_n (k := 2) (q := 31) (by decide +kernel) rfl rfl rfl ?_
      refine Wk.aload_n (k := 0) (q := 32) (by decide +kernel) rfl rfl rfl ?_
      refine Wk.getR (r := 149) (q := 35) f_Mod_7 (by decide +kernel) O_148 (by decide) rfl rfl rfl ?_
      refine Wk.iconst (n := 4) (q := 36) (by decide +kernel) rfl ?_
      refine Wk.iaload (q := 37) (by decide +kernel) A_149 (by first | omega | exact bi_rng _) (by first | omega | exact bi_rng _) rfl ?_
      rw [e5]
      refine Wk.cSi (q := 40) l_Mod_77 m_Mod_shipAt (by decide +kernel) (fun _ h => h) (Nat.le_of_ble_eq_true rfl) (Nat.le_of_ble_eq_true rfl) rfl (c_Mod_shipAt) rfl ?_
      refine Wk.icmp_ge (off := (23)) (t := 63) (q := 43) (by decide +kernel) (by decide) rfl (by first | omega | exact bi_rng _) (by first | omega | exact bi_rng _) (fun hc40 => ?_) (fun hc40 => ?_)
      · refine Wk.aload_n (k := 0) (q := 64) (by decide +kernel) rfl rfl rfl ?_
        refine Wk.getR (r := 149) (q := 67) f_Mod_7 (by decide +kernel) O_148 (by decide) rfl rfl rfl ?_
        refine Wk.iconst (n := 4) (q := 68) (by decide +kernel) rfl ?_
        refine Wk.iaload (q := 69) (by decide +kernel) A_149 (by first | omega | exact bi_rng _) (by first | omega | exact bi_rng _) rfl ?_
        exact Wk.riP (by decide +kernel) rfl (⟨⟨_, rfl, Or.inr ⟨hv2, e5 _, (by unfold lev; rw [e4])⟩⟩, rfl⟩)
      · omega
    · intro t t0 t1 ih
      refine Wk.iload_n (k := 2) (q := 31) (by decide +kernel) rfl rfl rfl ?_
      refine Wk.aload_n (k := 0) (q := 32) (by decide +kernel) rfl rfl rfl ?_
      refine Wk.getR (r := 149) (q := 35) f_Mod_7 (by decide +kernel) O_148 (by decide) rfl rfl rfl ?_
      refine Wk.iconst (n := 4) (q := 36) (by decide +kernel) rfl ?_
      refine Wk.iaload (q := 37) (by decide +kernel) A_149 (by first | omega | exact bi_rng _) (by first | omega | exact bi_rng _) rfl ?_
      rw [e5]
      refine Wk.cSi (q := 40) l_Mod_77 m_Mod_shipAt (by decide +kernel) (fun _ h => h) (Nat.le_of_ble_eq_true rfl) (Nat.le_of_ble_eq_true rfl) rfl (c_Mod_shipAt) rfl ?_
      refine Wk.icmp_ge (off := (23)) (t := 63) (q := 43) (by decide +kernel) (by decide) rfl (by first | omega | exact bi_rng _) (by first | omega | exact bi_rng _) (fun hc40 => ?_) (fun hc40 => ?_)
      · omega
      · refine Wk.aload_n (k := 0) (q := 44) (by decide +kernel) rfl rfl rfl ?_
        refine Wk.getR (r := 149) (q := 47) f_Mod_7 (by decide +kernel) O_148 (by decide) rfl rfl rfl ?_
        refine Wk.iload_n (k := 2) (q := 48) (by decide +kernel) rfl rfl rfl ?_
        refine Wk.aload_n (k := 0) (q := 49) (by decide +kernel) rfl rfl rfl ?_
        refine Wk.getR (r := 149) (q := 52) f_Mod_7 (by decide +kernel) O_148 (by decide) rfl rfl rfl ?_
        refine Wk.iload_n (k := 2) (q := 53) (by decide +kernel) rfl rfl rfl ?_
        refine Wk.iconst (n := 4) (q := 54) (by decide +kernel) rfl ?_
        refine Wk.iadd (q := 55) (by decide +kernel) rfl ?_
        refine Wk.iaload (q := 56) (by decide +kernel) A_149 (by first | omega | exact bi_rng _) (by first | omega | exact bi_rng _) rfl ?_
        refine Wk.iastore (q := 57) (by decide +kernel) A_149 (by first | omega | exact bi_rng _) (by first | omega | exact bi_rng _) rfl ?_
        refine Wk.iinc (i := 2) (n := 1) (q := 60) (by decide +kernel) rfl (by decide) rfl (fun _ h => h) rfl ?_
        refine Wk.goto (off := (-30)) (q := 30) (by decide +kernel) (by decide) ?_
        rw [shW_step t0 (by omega)]
        exact ih
  refine Wk.aload_n (k := 0) (q := 1) (by decide +kernel) rfl rfl rfl ?_
  refine Wk.iload_n (k := 1) (q := 2) (by decide +kernel) rfl rfl rfl ?_
  refine Wk.cVi (q := 5) l_Mod_134 m_Mod_isShip (by decide +kernel) (fun _ h => h) O_148 rfl (Nat.le_of_ble_eq_true rfl) (Nat.le_of_ble_eq_true rfl) rfl (c_Mod_isShip hv hI) rfl ?_
  refine Wk.ifB_ne (off := (6)) (t := 11) (q := 8) (by decide +kernel) (by decide) rfl (fun hc5 => ?_) (fun hc5 => ?_)
  · refine Wk.aload_n (k := 0) (q := 12) (by decide +kernel) rfl rfl rfl ?_
    refine Wk.cVv (q := 15) l_Mod_188 m_Mod_remember (by decide +kernel) (fun _ h => h) O_148 rfl (Nat.le_of_ble_eq_true rfl) (Nat.le_of_ble_eq_true rfl) rfl (c_Mod_remember hK0 hK1) rfl ?_
    refine Wk.aload_n (k := 0) (q := 16) (by decide +kernel) rfl rfl rfl ?_
    refine Wk.getR (r := 149) (q := 19) f_Mod_7 (by decide +kernel) O_148 (by decide) rfl rfl rfl ?_
    refine Wk.iconst (n := 4) (q := 20) (by decide +kernel) rfl ?_
    refine Wk.dup2 (q := 21) (by decide +kernel) rfl rfl rfl ?_
    refine Wk.iaload (q := 22) (by decide +kernel) A_149 (by first | omega | exact bi_rng _) (by first | omega | exact bi_rng _) rfl ?_
    refine Wk.iconst (n := 1) (q := 23) (by decide +kernel) rfl ?_
    refine Wk.isub (q := 24) (by decide +kernel) rfl ?_
    refine Wk.iastore (q := 25) (by decide +kernel) A_149 (by first | omega | exact bi_rng _) (by first | omega | exact bi_rng _) rfl ?_
    refine Wk.iload_n (k := 1) (q := 26) (by decide +kernel) rfl rfl rfl ?_
    refine Wk.cSi (q := 29) l_Mod_77 m_Mod_shipAt (by decide +kernel) (fun _ h => h) (Nat.le_of_ble_eq_true rfl) (Nat.le_of_ble_eq_true rfl) rfl (c_Mod_shipAt) rfl ?_
    refine Wk.istore_n (k := 2) (q := 30) (by decide +kernel) rfl (by decide) rfl (fun _ h => h) rfl ?_
    have k2 := key hc5
    rw [shW_0] at k2
    exact k2
  · refine Wk.ldc (z := (-1000000001)) (q := 10) k_Mod_160 (by decide +kernel) (by decide +kernel) rfl ?_
    exact Wk.riP (by decide +kernel) rfl (⟨⟨_, rfl, Or.inl ⟨hc5, rfl, rfl⟩⟩, rfl⟩)
end DEE
