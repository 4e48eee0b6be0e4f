/-! DEEDS, further -/
theorem toAnch_1 (I : IM) (k p b : Int) (hb : ¬ b = 4) (hb5 : ¬ b = 5) : toAnch I k p 1 b = I 1 b := by
  unfold toAnch dropW
  rw [iup_ne (fun z => hb5 z.2), shA_1, iup_ne (fun z => hb z.2), iup_other (by decide), iup_other (by decide)]
  unfold cpS
  rw [iup_other (by decide), iup_other (by decide), iup_other (by decide), iup_other (by decide), iup_other (by decide)]
theorem toAnch_14 (I : IM) (k p : Int) : toAnch I k p 1 4 = I 1 4 + 1 := by
  unfold toAnch dropW
  rw [iup_ne (by omega), shA_1, iup_at]
section DEF
variable {xs : RO} {d : Nat} {I : IM} {L : LM}
theorem c_Harb_layOut2 {w h : Int} : Wk xs x_Harb_layOut d 0 0 0 [some (vr 1), some (vi w), some (vi h), none] [] X2 I L (p2 fun v I' L' => v = none ∧ LAY I 1 w h I' ∧ L' = L) := c_Harb_layOut HOK_1

theorem c_Sw_harbour {w h : Int} (hw : -2147483648 ≤ w ∧ w ≤ 2147483647) (hh : -2147483648 ≤ h ∧ h ≤ 2147483647) (hI : Cur I) (HH : Hst I) : Wk xs x_Sw_harbour (d + 4) 0 0 0 [some (vr 0), some (vi w), some (vi h), none] [] X2 I L (p2 fun u I' _ => ∃ z, u = some (vi z) ∧ (((w < 2 ∨ 7 < w) ∨ (h < 2 ∨ 7 < h)) ∧ z = -1000000002 ∧ I' = I ∨ (¬ ((w < 2 ∨ 7 < w) ∨ (h < 2 ∨ 7 < h)) ∧ z = I 1 4 ∧ ∃ Ia, RemC I Ia ∧ LAY Ia 1 w h I'))) := by
  have hc : Cur I := hI
  have hC : CW I := hc.1
  obtain ⟨hW, hH, hT, hF, hA, hB, hD⟩ := id hC.1
  refine Wk.iload_n (k := 1) (q := 1) (by decide +kernel) rfl rfl rfl ?_
  refine Wk.iconst (n := 2) (q := 2) (by decide +kernel) rfl ?_
  refine Wk.bipush (n := 7) (q := 4) (by decide +kernel) (by decide +kernel) rfl ?_
  refine Wk.cSi (q := 7) l_Sw_193 m_Sw_isOut (by decide +kernel) (fun _ h => h) (Nat.le_of_ble_eq_true rfl) (Nat.le_of_ble_eq_true rfl) rfl (c_Sw_isOut hw (by omega) (by omega)) rfl ?_
  refine Wk.ifB_ne (off := (13)) (t := 20) (q := 10) (by decide +kernel) (by decide) rfl (fun hc7 => ?_) (fun hc7 => ?_)
  · refine Wk.ldc (z := (-1000000002)) (q := 22) k_Sw_102 (by decide +kernel) (by decide +kernel) rfl ?_
    exact Wk.riP (by decide +kernel) rfl (⟨_, rfl, Or.inl ⟨(by first | exact Or.inl hc7 | exact Or.inr hc17), rfl, rfl⟩⟩)
  · refine Wk.iload_n (k := 2) (q := 11) (by decide +kernel) rfl rfl rfl ?_
    refine Wk.iconst (n := 2) (q := 12) (by decide +kernel) rfl ?_
    refine Wk.bipush (n := 7) (q := 14) (by decide +kernel) (by decide +kernel) rfl ?_
    refine Wk.cSi (q := 17) l_Sw_193 m_Sw_isOut (by decide +kernel) (fun _ h => h) (Nat.le_of_ble_eq_true rfl) (Nat.le_of_ble_eq_true rfl) rfl (c_Sw_isOut hh (by omega) (by omega)) rfl ?_
    refine Wk.ifB_eq (off := (6)) (t := 23) (q := 20) (by decide +kernel) (by decide) rfl (fun hc17 => ?_) (fun hc17 => ?_)
    · refine Wk.aload_n (k := 0) (q := 24) (by decide +kernel) rfl rfl rfl ?_
      refine Wk.getR (r := 1) (q := 27) f_Sw_12 (by decide +kernel) O_0 (by decide) rfl rfl rfl ?_
      refine Wk.getI (z := 4) (q := 30) f_Sw_60 (by decide +kernel) O_1 (by decide) rfl rfl rfl ?_
      refine Wk.istore_n (k := 3) (q := 31) (by decide +kernel) rfl (by decide) rfl (fun _ h => h) rfl ?_
      refine Wk.aload_n (k := 0) (q := 32) (by decide +kernel) rfl rfl rfl ?_
      refine Wk.getR (r := 8) (q := 35) f_Sw_19 (by decide +kernel) O_0 (by decide) rfl rfl rfl ?_
      refine Wk.aload_n (k := 0) (q := 36) (by decide +kernel) rfl rfl rfl ?_
      refine Wk.getR (r := 1) (q := 39) f_Sw_12 (by decide +kernel) O_0 (by decide) rfl rfl rfl ?_
      refine Wk.cV (q := 42) l_Sw_197 m_Hist_remember (by decide +kernel) (fun _ h => h) O_8 rfl (Nat.le_of_ble_eq_true rfl) (Nat.le_of_ble_eq_true rfl) rfl (c_Hist_remember HH.1 HH.2.1) rfl (fun v0 Ia La hP => ?_)
      obtain ⟨rfl, ⟨J, hJ, eA⟩, eL⟩ := hP
      have hRem : RemC I Ia := by rw [eA]; exact RemC.of hJ
      refine Wk.aload_n (k := 0) (q := 43) (by decide +kernel) rfl rfl rfl ?_
      refine Wk.getR (r := 1) (q := 46) f_Sw_12 (by decide +kernel) O_0 (by decide) rfl rfl rfl ?_
      refine Wk.iload_n (k := 1) (q := 47) (by decide +kernel) rfl rfl rfl ?_
      refine Wk.iload_n (k := 2) (q := 48) (by decide +kernel) rfl rfl rfl ?_
      refine Wk.cV (q := 51) l_Sw_201 m_Harb_layOut (by decide +kernel) (fun _ h => h) O_1 rfl (Nat.le_of_ble_eq_true rfl) (Nat.le_of_ble_eq_true rfl) rfl (c_Harb_layOut2) rfl (fun v1 Ib Lb hP2 => ?_)
      obtain ⟨rfl, hLay, eL2⟩ := hP2
      refine Wk.iload_n (k := 3) (q := 52) (by decide +kernel) rfl rfl rfl ?_
      exact Wk.riP (by decide +kernel) rfl (⟨_, rfl, Or.inr ⟨(fun z => z.elim hc7 hc17), rfl, Ia, hRem, hLay⟩⟩)
    · refine Wk.ldc (z := (-1000000002)) (q := 22) k_Sw_102 (by decide +kernel) (by decide +kernel) rfl ?_
      exact Wk.riP (by decide +kernel) rfl (⟨_, rfl, Or.inl ⟨(by first | exact Or.inl hc7 | exact Or.inr hc17), rfl, rfl⟩⟩)
theorem c_Mod_harbour {w h : Int} (hw : -2147483648 ≤ w ∧ w ≤ 2147483647) (hh : -2147483648 ≤ h ∧ h ≤ 2147483647) (hM : MW I) (hK0 : 0 ≤ I 148 1) (hK1 : I 148 1 ≤ 16) : Wk xs x_Mod_harbour (d + 3) 0 0 0 [some (vr 148), some (vi w), some (vi h), none] [] X2 I L (p2 fun u I' L' => (∃ z, u = some (vi z) ∧ ((¬ ((2 ≤ w ∧ w ≤ 7) ∧ (2 ≤ h ∧ h ≤ 7)) ∧ z = -1000000002 ∧ I' = I) ∨ (((2 ≤ w ∧ w ≤ 7) ∧ (2 ≤ h ∧ h ≤ 7)) ∧ z = I 149 4 ∧ (Ex1 149 I' (remM I) ∧ (I' 149 0 = w ∧ I' 149 1 = h ∧ I' 149 4 = 0 ∧ I' 149 5 = 0) ∧ (∀ b, 6 ≤ b → b < 6 + 49 → I' 149 b = 5) ∧ ∀ b, ¬ b = 0 → ¬ b = 1 → ¬ b = 4 → ¬ b = 5 → ¬ (6 ≤ b ∧ b < 55) → I' 149 b = remM I 149 b)))) ∧ L' = L) := by
  obtain ⟨hI, hS, hQ⟩ := id hM
  obtain ⟨hW, hH, hT, hF, hA, hK, hD⟩ := id hI
  have h49 := WH49 (W := I 149 0) (H := I 149 1) (by omega) (by omega)
  have hRl : ∀ b, b < 90 → remM I 149 b = I 149 b := fun b hb => by
    show (if 149 = 149 then remW (I 148 1) (I 149) b else _) = _
    rw [if_pos rfl]
    exact remW_lo (by omega) (Or.inl hb)
  refine Wk.iload_n (k := 1) (q := 1) (by decide +kernel) rfl rfl rfl ?_
  refine Wk.iconst (n := 2) (q := 2) (by decide +kernel) rfl ?_
  refine Wk.bipush (n := 7) (q := 4) (by decide +kernel) (by decide +kernel) rfl ?_
  refine Wk.cSi (q := 7) l_Mod_36 m_Mod_in (by decide +kernel) (fun _ h => h) (Nat.le_of_ble_eq_true rfl) (Nat.le_of_ble_eq_true rfl) rfl (c_Mod_in hw (by omega) (by omega)) rfl ?_
  refine Wk.ifB_eq (off := (13)) (t := 20) (q := 10) (by decide +kernel) (by decide) rfl (fun hc7 => ?_) (fun hc7 => ?_)
  · refine Wk.ldc (z := (-1000000002)) (q := 22) k_Mod_159 (by decide +kernel) (by decide +kernel) rfl ?_
    exact Wk.riP (by decide +kernel) rfl (⟨⟨_, rfl, Or.inl ⟨(fun z => by first | exact hc7 z.1 | exact hc17 z.2), rfl, rfl⟩⟩, rfl⟩)
  · refine Wk.iload_n (k := 2) (q := 11) (by decide +kernel) rfl rfl rfl ?_
    refine Wk.iconst (n := 2) (q := 12) (by decide +kernel) rfl ?_
    refine Wk.bipush (n := 7) (q := 14) (by decide +kernel) (by decide +kernel) rfl ?_
    refine Wk.cSi (q := 17) l_Mod_36 m_Mod_in (by decide +kernel) (fun _ h => h) (Nat.le_of_ble_eq_true rfl) (Nat.le_of_ble_eq_true rfl) rfl (c_Mod_in hh (by omega) (by omega)) rfl ?_
    refine Wk.ifB_ne (off := (6)) (t := 23) (q := 20) (by decide +kernel) (by decide) rfl (fun hc17 => ?_) (fun hc17 => ?_)
    · refine Wk.aload_n (k := 0) (q := 24) (by decide +kernel) rfl rfl rfl ?_
      refine Wk.cVv (q := 27) l_Mod_188 m_Mod_remember (by decide +kernel) (fun _ h => h) O_148 rfl (Nat.le_of_ble_eq_true rfl) (Nat.le_of_ble_eq_true rfl) rfl (c_Mod_remember hK0 hK1) rfl ?_
      refine Wk.aload_n (k := 0) (q := 28) (by decide +kernel) rfl rfl rfl ?_
      refine Wk.getR (r := 149) (q := 31) f_Mod_7 (by decide +kernel) O_148 (by decide) rfl rfl rfl ?_
      refine Wk.iconst (n := 4) (q := 32) (by decide +kernel) rfl ?_
      refine Wk.iaload (q := 33) (by decide +kernel) A_149 (by first | omega | exact bi_rng _) (by first | omega | exact bi_rng _) rfl ?_
      refine Wk.istore_n (k := 3) (q := 34) (by decide +kernel) rfl (by decide) rfl (fun _ h => h) rfl ?_
      refine Wk.aload_n (k := 0) (q := 35) (by decide +kernel) rfl rfl rfl ?_
      refine Wk.iload_n (k := 1) (q := 36) (by decide +kernel) rfl rfl rfl ?_
      refine Wk.iload_n (k := 2) (q := 37) (by decide +kernel) rfl rfl rfl ?_
      refine Wk.cV (q := 40) l_Mod_32 m_Mod_begin (by decide +kernel) (fun _ h => h) O_148 rfl (Nat.le_of_ble_eq_true rfl) (Nat.le_of_ble_eq_true rfl) rfl (c_Mod_begin) rfl (fun v1 Ib Lb hP2 => ?_)
      obtain ⟨rfl, hBg, eL2⟩ := hP2
      refine Wk.iload_n (k := 3) (q := 41) (by decide +kernel) rfl rfl rfl ?_
      exact Wk.riP (by decide +kernel) rfl (⟨⟨_, rfl, Or.inr ⟨⟨hc7, hc17⟩, hRl 4 (by decide), hBg⟩⟩, eL2⟩)
    · refine Wk.ldc (z := (-1000000002)) (q := 22) k_Mod_159 (by decide +kernel) (by decide +kernel) rfl ?_
      exact Wk.riP (by decide +kernel) rfl (⟨⟨_, rfl, Or.inl ⟨(fun z => by first | exact hc7 z.1 | exact hc17 z.2), rfl, rfl⟩⟩, rfl⟩)
theorem c_Sw_depth {x y v : Int} (hx : -2147483648 ≤ x ∧ x ≤ 2147483647) (hy : -2147483648 ≤ y ∧ y ≤ 2147483647) (hv : -2147483648 ≤ v ∧ v ≤ 2147483647) (hI : Cur I) (HH : Hst I) : Wk xs x_Sw_depth (d + 4) 0 0 0 [some (vr 0), some (vi x), some (vi y), some (vi v), none] [] X2 I L (p2 fun u I' _ => ∃ z, u = some (vi z) ∧ ((¬ inE (I 1 0) (I 1 1) x y ∧ z = -1000000001 ∧ I' = I) ∨ (inE (I 1 0) (I 1 1) x y ∧ (v < 0 ∨ 9 < v) ∧ z = -1000000002 ∧ I' = I) ∨ (inE (I 1 0) (I 1 1) x y ∧ ¬ (v < 0 ∨ 9 < v) ∧ z = I 2 (y * I 1 0 + x) ∧ ∃ Ia, RemC I Ia ∧ I' = iup Ia 2 (y * I 1 0 + x) v))) := by
  have hc : Cur I := hI
  have hC : CW I := hc.1
  obtain ⟨hW, hH, hT, hF, hA, hB, hD⟩ := id hC.1
  have hwh := hc.wh
  refine Wk.aload_n (k := 0) (q := 1) (by decide +kernel) rfl rfl rfl ?_
  refine Wk.getR (r := 1) (q := 4) f_Sw_12 (by decide +kernel) O_0 (by decide) rfl rfl rfl ?_
  refine Wk.iload_n (k := 1) (q := 5) (by decide +kernel) rfl rfl rfl ?_
  refine Wk.iload_n (k := 2) (q := 6) (by decide +kernel) rfl rfl rfl ?_
  refine Wk.cVi (q := 9) l_Sw_103 m_Harb_hasCell (by decide +kernel) (fun _ h => h) O_1 rfl (Nat.le_of_ble_eq_true rfl) (Nat.le_of_ble_eq_true rfl) rfl (c_Harb_hasCell hx hy (by omega) (by omega)) rfl ?_
  refine Wk.ifB_ne (off := (6)) (t := 15) (q := 12) (by decide +kernel) (by decide) rfl (fun hc9 => ?_) (fun hc9 => ?_)
  · refine Wk.iload_n (k := 3) (q := 16) (by decide +kernel) rfl rfl rfl ?_
    refine Wk.iconst (n := 0) (q := 17) (by decide +kernel) rfl ?_
    refine Wk.bipush (n := 9) (q := 19) (by decide +kernel) (by decide +kernel) rfl ?_
    refine Wk.cSi (q := 22) l_Sw_193 m_Sw_isOut (by decide +kernel) (fun _ h => h) (Nat.le_of_ble_eq_true rfl) (Nat.le_of_ble_eq_true rfl) rfl (c_Sw_isOut hv (by omega) (by omega)) rfl ?_
    refine Wk.ifB_eq (off := (6)) (t := 28) (q := 25) (by decide +kernel) (by decide) rfl (fun hc22 => ?_) (fun hc22 => ?_)
    · have hcb := cellB (W := I 1 0) (H := I 1 1) (x := x) (y := y) ⟨hc9.1, hc9.2.1⟩ ⟨hc9.2.2.1, hc9.2.2.2⟩
      refine Wk.aload_n (k := 0) (q := 29) (by decide +kernel) rfl rfl rfl ?_
      refine Wk.getR (r := 1) (q := 32) f_Sw_12 (by decide +kernel) O_0 (by decide) rfl rfl rfl ?_
      refine Wk.iload_n (k := 1) (q := 33) (by decide +kernel) rfl rfl rfl ?_
      refine Wk.iload_n (k := 2) (q := 34) (by decide +kernel) rfl rfl rfl ?_
      refine Wk.cVi (q := 37) l_Sw_108 m_Harb_depthAt (by decide +kernel) (fun _ h => h) O_1 rfl (Nat.le_of_ble_eq_true rfl) (Nat.le_of_ble_eq_true rfl) rfl (c_Harb_depthAt hc9 hC.1) rfl ?_
      refine Wk.istore (i := 4) (q := 39) (by decide +kernel) (by decide) rfl (fun _ h => h) rfl ?_
      refine Wk.aload_n (k := 0) (q := 40) (by decide +kernel) rfl rfl rfl ?_
      refine Wk.getR (r := 8) (q := 43) f_Sw_19 (by decide +kernel) O_0 (by decide) rfl rfl rfl ?_
      refine Wk.aload_n (k := 0) (q := 44) (by decide +kernel) rfl rfl rfl ?_
      refine Wk.getR (r := 1) (q := 47) f_Sw_12 (by decide +kernel) O_0 (by decide) rfl rfl rfl ?_
      refine Wk.cV (q := 50) l_Sw_197 m_Hist_remember (by decide +kernel) (fun _ h => h) O_8 rfl (Nat.le_of_ble_eq_true rfl) (Nat.le_of_ble_eq_true rfl) rfl (c_Hist_remember HH.1 HH.2.1) rfl (fun v0 Ia La hP => ?_)
      obtain ⟨rfl, ⟨J, hJ, eA⟩, eL⟩ := hP
      have hRem : RemC I Ia := by rw [eA]; exact RemC.of hJ
      have e1 : Ia 1 = I 1 := hRem.lo (by decide)
      refine Wk.aload_n (k := 0) (q := 51) (by decide +kernel) rfl rfl rfl ?_
      refine Wk.getR (r := 1) (q := 54) f_Sw_12 (by decide +kernel) O_0 (by decide) rfl rfl rfl ?_
      refine Wk.aload_n (k := 0) (q := 55) (by decide +kernel) rfl rfl rfl ?_
      refine Wk.getR (r := 1) (q := 58) f_Sw_12 (by decide +kernel) O_0 (by decide) rfl rfl rfl ?_
      refine Wk.iload_n (k := 1) (q := 59) (by decide +kernel) rfl rfl rfl ?_
      refine Wk.iload_n (k := 2) (q := 60) (by decide +kernel) rfl rfl rfl ?_
      refine Wk.cVi (q := 63) l_Sw_144 m_Harb_cellAt (by decide +kernel) (fun _ h => h) O_1 rfl (Nat.le_of_ble_eq_true rfl) (Nat.le_of_ble_eq_true rfl) rfl (c_Harb_cellAt) rfl ?_
      rw [e1]
      refine Wk.iload_n (k := 3) (q := 64) (by decide +kernel) rfl rfl rfl ?_
      refine Wk.cVv (q := 67) l_Sw_205 m_Harb_changeDepth (by decide +kernel) (fun _ h => h) O_1 rfl (Nat.le_of_ble_eq_true rfl) (Nat.le_of_ble_eq_true rfl) rfl (c_Harb_changeDepth hcb.1 (by have := hcb.2.1; omega)) rfl ?_
      refine Wk.iload (i := 4) (q := 69) (by decide +kernel) rfl rfl ?_
      exact Wk.riP (by decide +kernel) rfl (⟨_, rfl, Or.inr (Or.inr ⟨hc9, hc22, rfl, Ia, hRem, rfl⟩)⟩)
    · refine Wk.ldc (z := (-1000000002)) (q := 27) k_Sw_102 (by decide +kernel) (by decide +kernel) rfl ?_
      exact Wk.riP (by decide +kernel) rfl (⟨_, rfl, Or.inr (Or.inl ⟨hc9, hc22, rfl, rfl⟩)⟩)
  · refine Wk.ldc (z := (-1000000001)) (q := 14) k_Sw_107 (by decide +kernel) (by decide +kernel) rfl ?_
    exact Wk.riP (by decide +kernel) rfl (⟨_, rfl, Or.inl ⟨hc9, rfl, rfl⟩⟩)
theorem c_Mod_depth {x y v : Int} (hx : -2147483648 ≤ x ∧ x ≤ 2147483647) (hy : -2147483648 ≤ y ∧ y ≤ 2147483647) (hv : -2147483648 ≤ v ∧ v ≤ 2147483647) (hM : MW I) (hK0 : 0 ≤ I 148 1) (hK1 : I 148 1 ≤ 16) : Wk xs x_Mod_depth (d + 3) 0 0 0 [some (vr 148), some (vi x), some (vi y), some (vi v)] [] X2 I L (p2 fun u I' L' => (∃ z, u = some (vi z) ∧ ((¬ inE (I 149 0) (I 149 1) x y ∧ z = -1000000001 ∧ I' = I) ∨ (inE (I 149 0) (I 149 1) x y ∧ ¬ (0 ≤ v ∧ v ≤ 9) ∧ z = -1000000002 ∧ I' = I) ∨ (inE (I 149 0) (I 149 1) x y ∧ (0 ≤ v ∧ v ≤ 9) ∧ z = I 149 (6 + y * I 149 0 + x) ∧ I' = iup (remM I) 149 (6 + y * I 149 0 + x) v))) ∧ L' = L) := by
  obtain ⟨hI, hS, hQ⟩ := id hM
  obtain ⟨hW, hH, hT, hF, hA, hK, hD⟩ := id hI
  have h49 := WH49 (W := I 149 0) (H := I 149 1) (by omega) (by omega)
  have hRl : ∀ b, b < 90 → remM I 149 b = I 149 b := fun b hb => by
    show (if 149 = 149 then remW (I 148 1) (I 149) b else _) = _
    rw [if_pos rfl]
    exact remW_lo (by omega) (Or.inl hb)
  refine Wk.aload_n (k := 0) (q := 1) (by decide +kernel) rfl rfl rfl ?_
  refine Wk.iload_n (k := 1) (q := 2) (by decide +kernel) rfl rfl rfl ?_
  refine Wk.iload_n (k := 2) (q := 3) (by decide +kernel) rfl rfl rfl ?_
  refine Wk.cVi (q := 6) l_Mod_40 m_Mod_isCell (by decide +kernel) (fun _ h => h) O_148 rfl (Nat.le_of_ble_eq_true rfl) (Nat.le_of_ble_eq_true rfl) rfl (c_Mod_isCell hx hy hI) rfl ?_
  refine Wk.ifB_ne (off := (6)) (t := 12) (q := 9) (by decide +kernel) (by decide) rfl (fun hc6 => ?_) (fun hc6 => ?_)
  · refine Wk.iload_n (k := 3) (q := 13) (by decide +kernel) rfl rfl rfl ?_
    refine Wk.iconst (n := 0) (q := 14) (by decide +kernel) rfl ?_
    refine Wk.bipush (n := 9) (q := 16) (by decide +kernel) (by decide +kernel) rfl ?_
    refine Wk.cSi (q := 19) l_Mod_36 m_Mod_in (by decide +kernel) (fun _ h => h) (Nat.le_of_ble_eq_true rfl) (Nat.le_of_ble_eq_true rfl) rfl (c_Mod_in hv (by omega) (by omega)) rfl ?_
    refine Wk.ifB_eq (off := (24)) (t := 43) (q := 22) (by decide +kernel) (by decide) rfl (fun hc19 => ?_) (fun hc19 => ?_)
    · refine Wk.ldc (z := (-1000000002)) (q := 45) k_Mod_159 (by decide +kernel) (by decide +kernel) rfl ?_
      exact Wk.riP (by decide +kernel) rfl (by first | exact ⟨⟨_, rfl, Or.inr (Or.inl ⟨hc6, hc19, rfl, rfl⟩)⟩, rfl⟩ | exact ⟨⟨_, rfl, Or.inr (Or.inr ⟨hc6, hc19, hRl _ (by omega), eA⟩)⟩, eL⟩)
    · have hcb := cellB (W := I 149 0) (H := I 149 1) (x := x) (y := y) ⟨hc6.1, hc6.2.1⟩ ⟨hc6.2.2.1, hc6.2.2.2⟩
      refine Wk.aload_n (k := 0) (q := 23) (by decide +kernel) rfl rfl rfl ?_
      refine Wk.bipush (n := 6) (q := 25) (by decide +kernel) (by decide +kernel) rfl ?_
      refine Wk.iload_n (k := 2) (q := 26) (by decide +kernel) rfl rfl rfl ?_
      refine Wk.aload_n (k := 0) (q := 27) (by decide +kernel) rfl rfl rfl ?_
      refine Wk.getR (r := 149) (q := 30) f_Mod_7 (by decide +kernel) O_148 (by decide) rfl rfl rfl ?_
      refine Wk.iconst (n := 0) (q := 31) (by decide +kernel) rfl ?_
      refine Wk.iaload (q := 32) (by decide +kernel) A_149 (by first | omega | exact bi_rng _) (by first | omega | exact bi_rng _) rfl ?_
      refine Wk.imul (q := 33) (by decide +kernel) rfl ?_
      refine Wk.iadd (q := 34) (by decide +kernel) rfl ?_
      refine Wk.iload_n (k := 1) (q := 35) (by decide +kernel) rfl rfl rfl ?_
      refine Wk.iadd (q := 36) (by decide +kernel) rfl ?_
      refine Wk.iload_n (k := 3) (q := 37) (by decide +kernel) rfl rfl rfl ?_
      refine Wk.cV (q := 40) l_Mod_191 m_Mod_put (by decide +kernel) (fun _ h => h) O_148 rfl (Nat.le_of_ble_eq_true rfl) (Nat.le_of_ble_eq_true rfl) rfl (c_Mod_put hK0 hK1 (by omega)) rfl (fun v0 Ia La hP => ?_)
      obtain ⟨rfl, eA, eL⟩ := hP
      refine Wk.goto (off := (5)) (q := 45) (by decide +kernel) (by decide) ?_
      exact Wk.riP (by decide +kernel) rfl (by first | exact ⟨⟨_, rfl, Or.inr (Or.inl ⟨hc6, hc19, rfl, rfl⟩)⟩, rfl⟩ | exact ⟨⟨_, rfl, Or.inr (Or.inr ⟨hc6, hc19, hRl _ (by omega), eA⟩)⟩, eL⟩)
  · refine Wk.ldc (z := (-1000000001)) (q := 11) k_Mod_160 (by decide +kernel) (by decide +kernel) rfl ?_
    exact Wk.riP (by decide +kernel) rfl (⟨⟨_, rfl, Or.inl ⟨hc6, rfl, rfl⟩⟩, rfl⟩)
theorem c_Sw_arrive {a b c : Int} (ha : -2147483648 ≤ a ∧ a ≤ 2147483647) (hb : -2147483648 ≤ b ∧ b ≤ 2147483647) (hcc : -2147483648 ≤ c ∧ c ≤ 2147483647) (hI : Cur I) (HH : Hst I) : Wk xs x_Sw_arrive (d + 4) 0 0 0 [some (vr 0), some (vi a), some (vi b), some (vi c)] [] X2 I L (p2 fun u I' _ => ∃ z, u = some (vi z) ∧ ((((a < 1 ∨ 9 < a) ∨ (b < 0 ∨ 2 < b) ∨ (c < 1 ∨ 2 < c)) ∧ z = -1000000002 ∧ I' = I) ∨ (¬ ((a < 1 ∨ 9 < a) ∨ (b < 0 ∨ 2 < b) ∨ (c < 1 ∨ 2 < c)) ∧ ¬ I 1 5 < 3 ∧ z = -1000000004 ∧ I' = I) ∨ (¬ ((a < 1 ∨ 9 < a) ∨ (b < 0 ∨ 2 < b) ∨ (c < 1 ∨ 2 < c)) ∧ I 1 5 < 3 ∧ z = I 1 5 ∧ ∃ Ia, RemC I Ia ∧ I' = iup (iup (iup (iup Ia 3 (5 + Ia 1 5) a) 4 (5 + Ia 1 5) b) 5 (5 + Ia 1 5) c) 1 5 (Ia 1 5 + 1)))) := by
  have hc : Cur I := hI
  have hC : CW I := hc.1
  obtain ⟨hW, hH, hT, hF, hA, hB, hD⟩ := id hC.1
  refine Wk.iload_n (k := 1) (q := 1) (by decide +kernel) rfl rfl rfl ?_
  refine Wk.iconst (n := 1) (q := 2) (by decide +kernel) rfl ?_
  refine Wk.bipush (n := 9) (q := 4) (by decide +kernel) (by decide +kernel) rfl ?_
  refine Wk.cSi (q := 7) l_Sw_193 m_Sw_isOut (by decide +kernel) (fun _ h => h) (Nat.le_of_ble_eq_true rfl) (Nat.le_of_ble_eq_true rfl) rfl (c_Sw_isOut ha (by omega) (by omega)) rfl ?_
  refine Wk.ifB_ne (off := (21)) (t := 28) (q := 10) (by decide +kernel) (by decide) rfl (fun hc7 => ?_) (fun hc7 => ?_)
  · refine Wk.ldc (z := (-1000000002)) (q := 30) k_Sw_102 (by decide +kernel) (by decide +kernel) rfl ?_
    exact Wk.riP (by decide +kernel) rfl (⟨_, rfl, Or.inl ⟨(by omega), rfl, rfl⟩⟩)
  · refine Wk.iload_n (k := 2) (q := 11) (by decide +kernel) rfl rfl rfl ?_
    refine Wk.iconst (n := 0) (q := 12) (by decide +kernel) rfl ?_
    refine Wk.iconst (n := 2) (q := 13) (by decide +kernel) rfl ?_
    refine Wk.cSi (q := 16) l_Sw_193 m_Sw_isOut (by decide +kernel) (fun _ h => h) (Nat.le_of_ble_eq_true rfl) (Nat.le_of_ble_eq_true rfl) rfl (c_Sw_isOut hb (by omega) (by omega)) rfl ?_
    refine Wk.ifB_ne (off := (12)) (t := 28) (q := 19) (by decide +kernel) (by decide) rfl (fun hc16 => ?_) (fun hc16 => ?_)
    · refine Wk.ldc (z := (-1000000002)) (q := 30) k_Sw_102 (by decide +kernel) (by decide +kernel) rfl ?_
      exact Wk.riP (by decide +kernel) rfl (⟨_, rfl, Or.inl ⟨(by omega), rfl, rfl⟩⟩)
    · refine Wk.iload_n (k := 3) (q := 20) (by decide +kernel) rfl rfl rfl ?_
      refine Wk.iconst (n := 1) (q := 21) (by decide +kernel) rfl ?_
      refine Wk.iconst (n := 2) (q := 22) (by decide +kernel) rfl ?_
      refine Wk.cSi (q := 25) l_Sw_193 m_Sw_isOut (by decide +kernel) (fun _ h => h) (Nat.le_of_ble_eq_true rfl) (Nat.le_of_ble_eq_true rfl) rfl (c_Sw_isOut hcc (by omega) (by omega)) rfl ?_
      refine Wk.ifB_eq (off := (6)) (t := 31) (q := 28) (by decide +kernel) (by decide) rfl (fun hc25 => ?_) (fun hc25 => ?_)
      · refine Wk.aload_n (k := 0) (q := 32) (by decide +kernel) rfl rfl rfl ?_
        refine Wk.getR (r := 1) (q := 35) f_Sw_12 (by decide +kernel) O_0 (by decide) rfl rfl rfl ?_
        refine Wk.getI (z := 5) (q := 38) f_Sw_63 (by decide +kernel) O_1 (by decide) rfl rfl rfl ?_
        refine Wk.iconst (n := 3) (q := 39) (by decide +kernel) rfl ?_
        refine Wk.icmp_lt (off := (6)) (t := 45) (q := 42) (by decide +kernel) (by decide) rfl (by first | omega | exact bi_rng _) (by first | omega | exact bi_rng _) (fun hc39 => ?_) (fun hc39 => ?_)
        · refine Wk.aload_n (k := 0) (q := 46) (by decide +kernel) rfl rfl rfl ?_
          refine Wk.getR (r := 8) (q := 49) f_Sw_19 (by decide +kernel) O_0 (by decide) rfl rfl rfl ?_
          refine Wk.aload_n (k := 0) (q := 50) (by decide +kernel) rfl rfl rfl ?_
          refine Wk.getR (r := 1) (q := 53) f_Sw_12 (by decide +kernel) O_0 (by decide) rfl rfl rfl ?_
          refine Wk.cV (q := 56) l_Sw_197 m_Hist_remember (by decide +kernel) (fun _ h => h) O_8 rfl (Nat.le_of_ble_eq_true rfl) (Nat.le_of_ble_eq_true rfl) rfl (c_Hist_remember HH.1 HH.2.1) rfl (fun v0 Ia La hP => ?_)
          obtain ⟨rfl, ⟨J, hJ, eA⟩, eL⟩ := hP
          have hRem : RemC I Ia := by rw [eA]; exact RemC.of hJ
          have e1 : Ia 1 = I 1 := hRem.lo (by decide)
          refine Wk.aload_n (k := 0) (q := 57) (by decide +kernel) rfl rfl rfl ?_
          refine Wk.getR (r := 1) (q := 60) f_Sw_12 (by decide +kernel) O_0 (by decide) rfl rfl rfl ?_
          refine Wk.iload_n (k := 1) (q := 61) (by decide +kernel) rfl rfl rfl ?_
          refine Wk.iload_n (k := 2) (q := 62) (by decide +kernel) rfl rfl rfl ?_
          refine Wk.iload_n (k := 3) (q := 63) (by decide +kernel) rfl rfl rfl ?_
          refine Wk.cVv (q := 66) l_Sw_209 m_Harb_letWait (by decide +kernel) (fun _ h => h) O_1 rfl (Nat.le_of_ble_eq_true rfl) (Nat.le_of_ble_eq_true rfl) rfl (c_Harb_letWait (by rw [e1]; omega)) rfl ?_
          refine Wk.aload_n (k := 0) (q := 67) (by decide +kernel) rfl rfl rfl ?_
          refine Wk.getR (r := 1) (q := 70) f_Sw_12 (by decide +kernel) O_0 (by decide) rfl rfl rfl ?_
          refine Wk.getI (z := 5) (q := 73) f_Sw_63 (by decide +kernel) O_1 (by decide) rfl rfl rfl ?_
          refine Wk.iconst (n := 1) (q := 74) (by decide +kernel) rfl ?_
          refine Wk.isub (q := 75) (by decide +kernel) rfl ?_
          exact Wk.riP (by decide +kernel) rfl (⟨_, rfl, Or.inr (Or.inr ⟨(by omega), hc39, (by rw [iup_at, e1]; omega), Ia, hRem, rfl⟩)⟩)
        · refine Wk.ldc (z := (-1000000004)) (q := 44) k_Sw_208 (by decide +kernel) (by decide +kernel) rfl ?_
          exact Wk.riP (by decide +kernel) rfl (⟨_, rfl, Or.inr (Or.inl ⟨(by omega), (by omega), rfl, rfl⟩)⟩)
      · refine Wk.ldc (z := (-1000000002)) (q := 30) k_Sw_102 (by decide +kernel) (by decide +kernel) rfl ?_
        exact Wk.riP (by decide +kernel) rfl (⟨_, rfl, Or.inl ⟨(by omega), rfl, rfl⟩⟩)
theorem c_Sw_undo {n : Int} (hn : -2147483648 ≤ n ∧ n ≤ 2147483647) (hI : Cur I) (HH : Hst I) : Wk xs x_Sw_undo (d + 4) 0 0 0 [some (vr 0), some (vi n)] [] X2 I L (p2 fun u I' _ => ∃ z, u = some (vi z) ∧ (((n < 1 ∨ 16 < n) ∧ z = -1000000002 ∧ I' = I) ∨ (¬ (n < 1 ∨ 16 < n) ∧ I 8 2 < n ∧ z = -1000000003 ∧ I' = I) ∨ (¬ (n < 1 ∨ 16 < n) ∧ ¬ I 8 2 < n ∧ z = I 8 2 - n ∧ HC (iup (iup I 8 1 ((I 8 1 - n) % 16)) 8 2 (I 8 2 - n)) (10 + 7 * ((I 8 1 - n) % 16).toNat) 1 6 I'))) := by
  have hc : Cur I := hI
  have hC : CW I := hc.1
  obtain ⟨hW, hH, hT, hF, hA, hB, hD⟩ := id hC.1
  obtain ⟨n1, n2, n3, n4⟩ := id HH
  refine Wk.iload_n (k := 1) (q := 1) (by decide +kernel) rfl rfl rfl ?_
  refine Wk.iconst (n := 1) (q := 2) (by decide +kernel) rfl ?_
  refine Wk.bipush (n := 16) (q := 4) (by decide +kernel) (by decide +kernel) rfl ?_
  refine Wk.cSi (q := 7) l_Sw_193 m_Sw_isOut (by decide +kernel) (fun _ h => h) (Nat.le_of_ble_eq_true rfl) (Nat.le_of_ble_eq_true rfl) rfl (c_Sw_isOut hn (by omega) (by omega)) rfl ?_
  refine Wk.ifB_eq (off := (6)) (t := 13) (q := 10) (by decide +kernel) (by decide) rfl (fun hc7 => ?_) (fun hc7 => ?_)
  · refine Wk.iload_n (k := 1) (q := 14) (by decide +kernel) rfl rfl rfl ?_
    refine Wk.aload_n (k := 0) (q := 15) (by decide +kernel) rfl rfl rfl ?_
    refine Wk.getR (r := 8) (q := 18) f_Sw_19 (by decide +kernel) O_0 (by decide) rfl rfl rfl ?_
    refine Wk.getI (z := 2) (q := 21) f_Sw_99 (by decide +kernel) O_8 (by decide) rfl rfl rfl ?_
    refine Wk.icmp_le (off := (6)) (t := 27) (q := 24) (by decide +kernel) (by decide) rfl (by first | omega | exact bi_rng _) (by first | omega | exact bi_rng _) (fun hc21 => ?_) (fun hc21 => ?_)
    · refine Wk.aload_n (k := 0) (q := 28) (by decide +kernel) rfl rfl rfl ?_
      refine Wk.getR (r := 8) (q := 31) f_Sw_19 (by decide +kernel) O_0 (by decide) rfl rfl rfl ?_
      refine Wk.iload_n (k := 1) (q := 32) (by decide +kernel) rfl rfl rfl ?_
      refine Wk.aload_n (k := 0) (q := 33) (by decide +kernel) rfl rfl rfl ?_
      refine Wk.getR (r := 1) (q := 36) f_Sw_12 (by decide +kernel) O_0 (by decide) rfl rfl rfl ?_
      refine Wk.cV (q := 39) l_Sw_240 m_Hist_bringBack (by decide +kernel) (fun _ h => h) O_8 rfl (Nat.le_of_ble_eq_true rfl) (Nat.le_of_ble_eq_true rfl) rfl (c_Hist_bringBack n1 (by omega)) rfl (fun v1 Ib Lb hP2 => ?_)
      obtain ⟨rfl, hHC, eL2⟩ := hP2
      have e8 := hHC.2.2 8 (by omega)
      refine Wk.aload_n (k := 0) (q := 40) (by decide +kernel) rfl rfl rfl ?_
      refine Wk.getR (r := 8) (q := 43) f_Sw_19 (by decide +kernel) O_0 (by decide) rfl rfl rfl ?_
      refine Wk.getI (z := 2) (q := 46) f_Sw_99 (by decide +kernel) O_8 (by decide) rfl rfl rfl ?_
      exact Wk.riP (by decide +kernel) rfl (⟨_, rfl, Or.inr (Or.inr ⟨hc7, (by omega), (by rw [e8, iup_at]), hHC⟩)⟩)
    · refine Wk.ldc (z := (-1000000003)) (q := 26) k_Sw_217 (by decide +kernel) (by decide +kernel) rfl ?_
      exact Wk.riP (by decide +kernel) rfl (⟨_, rfl, Or.inr (Or.inl ⟨hc7, (by omega), rfl, rfl⟩)⟩)
  · refine Wk.ldc (z := (-1000000002)) (q := 12) k_Sw_102 (by decide +kernel) (by decide +kernel) rfl ?_
    exact Wk.riP (by decide +kernel) rfl (⟨_, rfl, Or.inl ⟨hc7, rfl, rfl⟩⟩)
theorem c_Mod_undo {n : Int} (hn : -2147483648 ≤ n ∧ n ≤ 2147483647) (hM : MW I) (hK0 : 0 ≤ I 148 1) (hK1 : I 148 1 ≤ 16) : Wk xs x_Mod_undo (d + 3) 0 0 0 [some (vr 148), some (vi n)] [] X2 I L (p2 fun u I' L' => (∃ z, u = some (vi z) ∧ ((¬ (1 ≤ n ∧ n ≤ 16) ∧ z = -1000000002 ∧ I' = I) ∨ ((1 ≤ n ∧ n ≤ 16) ∧ I 148 1 < n ∧ z = -1000000003 ∧ I' = I) ∨ ((1 ≤ n ∧ n ≤ 16) ∧ ¬ I 148 1 < n ∧ z = I 148 1 - n ∧ I' = cpR (iup I 148 1 (I 148 1 - n)) (90 * (I 148 1 - n + 1)) 0 90))) ∧ L' = L) := by
  obtain ⟨hI, hS, hQ⟩ := id hM
  obtain ⟨hW, hH, hT, hF, hA, hK, hD⟩ := id hI
  have h49 := WH49 (W := I 149 0) (H := I 149 1) (by omega) (by omega)
  have hRl : ∀ b, b < 90 → remM I 149 b = I 149 b := fun b hb => by
    show (if 149 = 149 then remW (I 148 1) (I 149) b else _) = _
    rw [if_pos rfl]
    exact remW_lo (by omega) (Or.inl hb)
  refine Wk.iload_n (k := 1) (q := 1) (by decide +kernel) rfl rfl rfl ?_
  refine Wk.iconst (n := 1) (q := 2) (by decide +kernel) rfl ?_
  refine Wk.bipush (n := 16) (q := 4) (by decide +kernel) (by decide +kernel) rfl ?_
  refine Wk.cSi (q := 7) l_Mod_36 m_Mod_in (by decide +kernel) (fun _ h => h) (Nat.le_of_ble_eq_true rfl) (Nat.le_of_ble_eq_true rfl) rfl (c_Mod_in hn (by omega) (by omega)) rfl ?_
  refine Wk.ifB_ne (off := (6)) (t := 13) (q := 10) (by decide +kernel) (by decide) rfl (fun hc7 => ?_) (fun hc7 => ?_)
  · refine Wk.iload_n (k := 1) (q := 14) (by decide +kernel) rfl rfl rfl ?_
    refine Wk.aload_n (k := 0) (q := 15) (by decide +kernel) rfl rfl rfl ?_
    refine Wk.getI (z := 1) (q := 18) f_Mod_153 (by decide +kernel) O_148 (by decide) rfl rfl rfl ?_
    refine Wk.icmp_le (off := (6)) (t := 24) (q := 21) (by decide +kernel) (by decide) rfl (by first | omega | exact bi_rng _) (by first | omega | exact bi_rng _) (fun hc18 => ?_) (fun hc18 => ?_)
    · refine Wk.aload_n (k := 0) (q := 25) (by decide +kernel) rfl rfl rfl ?_
      refine Wk.dup (q := 26) (by decide +kernel) rfl rfl ?_
      refine Wk.getI (z := 1) (q := 29) f_Mod_153 (by decide +kernel) O_148 (by decide) rfl rfl rfl ?_
      refine Wk.iload_n (k := 1) (q := 30) (by decide +kernel) rfl rfl rfl ?_
      refine Wk.isub (q := 31) (by decide +kernel) rfl ?_
      refine Wk.putI (z := 1) (q := 34) f_Mod_153 fw_Mod_1 (by decide +kernel) O_148 (by decide) rfl rfl ⟨rfl, rfl⟩ rfl ?_
      refine Wk.aload_n (k := 0) (q := 35) (by decide +kernel) rfl rfl rfl ?_
      refine Wk.bipush (n := 90) (q := 37) (by decide +kernel) (by decide +kernel) rfl ?_
      refine Wk.aload_n (k := 0) (q := 38) (by decide +kernel) rfl rfl rfl ?_
      refine Wk.getI (z := 1) (q := 41) f_Mod_153 (by decide +kernel) O_148 (by decide) rfl rfl rfl ?_
      rw [iup_at]
      refine Wk.iconst (n := 1) (q := 42) (by decide +kernel) rfl ?_
      refine Wk.iadd (q := 43) (by decide +kernel) rfl ?_
      refine Wk.imul (q := 44) (by decide +kernel) rfl ?_
      refine Wk.iconst (n := 0) (q := 45) (by decide +kernel) rfl ?_
      refine Wk.cVv (q := 48) l_Mod_185 m_Mod_copyRow (by decide +kernel) (fun _ h => h) O_148 rfl (Nat.le_of_ble_eq_true rfl) (Nat.le_of_ble_eq_true rfl) rfl (c_Mod_copyRow (by omega) (by omega) (by omega)) rfl ?_
      refine Wk.aload_n (k := 0) (q := 49) (by decide +kernel) rfl rfl rfl ?_
      refine Wk.getI (z := 1) (q := 52) f_Mod_153 (by decide +kernel) O_148 (by decide) rfl rfl rfl ?_
      rw [cpR_o (by decide), iup_at]
      exact Wk.riP (by decide +kernel) rfl (⟨⟨_, rfl, Or.inr (Or.inr ⟨hc7, (by omega), rfl, rfl⟩)⟩, rfl⟩)
    · refine Wk.ldc (z := (-1000000003)) (q := 23) k_Mod_202 (by decide +kernel) (by decide +kernel) rfl ?_
      exact Wk.riP (by decide +kernel) rfl (⟨⟨_, rfl, Or.inr (Or.inl ⟨hc7, (by omega), rfl, rfl⟩)⟩, rfl⟩)
  · refine Wk.ldc (z := (-1000000002)) (q := 12) k_Mod_159 (by decide +kernel) (by decide +kernel) rfl ?_
    exact Wk.riP (by decide +kernel) rfl (⟨⟨_, rfl, Or.inl ⟨hc7, rfl, rfl⟩⟩, rfl⟩)
theorem c_Sw_write {a c : Int} (ha : -2147483648 ≤ a ∧ a ≤ 2147483647) (hI : Cur I) (hE : 0 ≤ I 128 2 ∧ I 128 2 ≤ 20) : Wk xs x_Sw_write (d + 4) 0 0 0 [some (vr 0), some (vi a), some (vi c)] [] X2 I L (p2 fun u I' _ => ∃ z, u = some (vi z) ∧ ((¬ (0 ≤ a ∧ a < I 1 4) ∧ z = -1000000001 ∧ I' = I) ∨ ((0 ≤ a ∧ a < I 1 4) ∧ ¬ I 128 2 < 20 ∧ z = -1000000004 ∧ I' = I) ∨ ((0 ≤ a ∧ a < I 1 4) ∧ I 128 2 < 20 ∧ z = I 128 2 + 1 ∧ I' = iup (iup (iup I 129 (I 128 2) a) 130 (I 128 2) c) 128 2 (I 128 2 + 1)))) := by
  have hc : Cur I := hI
  have hC : CW I := hc.1
  obtain ⟨hW, hH, hT, hF, hA, hB, hD⟩ := id hC.1
  refine Wk.aload_n (k := 0) (q := 1) (by decide +kernel) rfl rfl rfl ?_
  refine Wk.getR (r := 1) (q := 4) f_Sw_12 (by decide +kernel) O_0 (by decide) rfl rfl rfl ?_
  refine Wk.iload_n (k := 1) (q := 5) (by decide +kernel) rfl rfl rfl ?_
  refine Wk.cVi (q := 8) l_Sw_124 m_Harb_hasAnchored (by decide +kernel) (fun _ h => h) O_1 rfl (Nat.le_of_ble_eq_true rfl) (Nat.le_of_ble_eq_true rfl) rfl (c_Harb_hasAnchored ha hA) rfl ?_
  refine Wk.ifB_ne (off := (6)) (t := 14) (q := 11) (by decide +kernel) (by decide) rfl (fun hc8 => ?_) (fun hc8 => ?_)
  · refine Wk.aload_n (k := 0) (q := 15) (by decide +kernel) rfl rfl rfl ?_
    refine Wk.getR (r := 128) (q := 18) f_Sw_33 (by decide +kernel) O_0 (by decide) rfl rfl rfl ?_
    refine Wk.getI (z := 2) (q := 21) f_Sw_93 (by decide +kernel) O_128 (by decide) rfl rfl rfl ?_
    refine Wk.bipush (n := 20) (q := 23) (by decide +kernel) (by decide +kernel) rfl ?_
    refine Wk.icmp_lt (off := (6)) (t := 29) (q := 26) (by decide +kernel) (by decide) rfl (by first | omega | exact bi_rng _) (by first | omega | exact bi_rng _) (fun hc23 => ?_) (fun hc23 => ?_)
    · refine Wk.aload_n (k := 0) (q := 30) (by decide +kernel) rfl rfl rfl ?_
      refine Wk.getR (r := 128) (q := 33) f_Sw_33 (by decide +kernel) O_0 (by decide) rfl rfl rfl ?_
      refine Wk.iload_n (k := 1) (q := 34) (by decide +kernel) rfl rfl rfl ?_
      refine Wk.iload_n (k := 2) (q := 35) (by decide +kernel) rfl rfl rfl ?_
      refine Wk.cVv (q := 38) l_Sw_244 m_Book_add (by decide +kernel) (fun _ h => h) O_128 rfl (Nat.le_of_ble_eq_true rfl) (Nat.le_of_ble_eq_true rfl) rfl (c_Book_add hE.1 hc23) rfl ?_
      refine Wk.aload_n (k := 0) (q := 39) (by decide +kernel) rfl rfl rfl ?_
      refine Wk.getR (r := 128) (q := 42) f_Sw_33 (by decide +kernel) O_0 (by decide) rfl rfl rfl ?_
      refine Wk.getI (z := 2) (q := 45) f_Sw_93 (by decide +kernel) O_128 (by decide) rfl rfl rfl ?_
      exact Wk.riP (by decide +kernel) rfl (⟨_, rfl, Or.inr (Or.inr ⟨hc8, hc23, iup_at _ _ _ _, rfl⟩)⟩)
    · refine Wk.ldc (z := (-1000000004)) (q := 28) k_Sw_208 (by decide +kernel) (by decide +kernel) rfl ?_
      exact Wk.riP (by decide +kernel) rfl (⟨_, rfl, Or.inr (Or.inl ⟨hc8, (by omega), rfl, rfl⟩)⟩)
  · refine Wk.ldc (z := (-1000000001)) (q := 13) k_Sw_107 (by decide +kernel) (by decide +kernel) rfl ?_
    exact Wk.riP (by decide +kernel) rfl (⟨_, rfl, Or.inl ⟨hc8, rfl, rfl⟩⟩)
theorem c_Mod_write {a c : Int} (ha : -2147483648 ≤ a ∧ a ≤ 2147483647) (hM : MW I) (hE : 0 ≤ I 148 7 ∧ I 148 7 ≤ 20) : Wk xs x_Mod_write (d + 4) 0 0 0 [some (vr 148), some (vi a), some (vi c)] [] X2 I L (p2 fun u I' L' => (∃ z, u = some (vi z) ∧ ((¬ (0 ≤ a ∧ a < I 149 4) ∧ z = -1000000001 ∧ I' = I) ∨ ((0 ≤ a ∧ a < I 149 4) ∧ I 148 7 = 20 ∧ z = -1000000004 ∧ I' = I) ∨ ((0 ≤ a ∧ a < I 149 4) ∧ ¬ I 148 7 = 20 ∧ z = I 148 7 + 1 ∧ I' = iup (iup (iup I 151 (I 148 7) a) 152 (I 148 7) c) 148 7 (I 148 7 + 1)))) ∧ L' = L) := by
  obtain ⟨hI, hS, hQ⟩ := id hM
  refine Wk.aload_n (k := 0) (q := 1) (by decide +kernel) rfl rfl rfl ?_
  refine Wk.iload_n (k := 1) (q := 2) (by decide +kernel) rfl rfl rfl ?_
  refine Wk.cVi (q := 5) l_Mod_134 m_Mod_isShip (by decide +kernel) (fun _ h => h) O_148 rfl (Nat.le_of_ble_eq_true rfl) (Nat.le_of_ble_eq_true rfl) rfl (c_Mod_isShip ha hI) rfl ?_
  refine Wk.ifB_ne (off := (6)) (t := 11) (q := 8) (by decide +kernel) (by decide) rfl (fun hc5 => ?_) (fun hc5 => ?_)
  · refine Wk.aload_n (k := 0) (q := 12) (by decide +kernel) rfl rfl rfl ?_
    refine Wk.getI (z := 7) (q := 15) f_Mod_131 (by decide +kernel) O_148 (by decide) rfl rfl rfl ?_
    refine Wk.bipush (n := 20) (q := 17) (by decide +kernel) (by decide +kernel) rfl ?_
    refine Wk.icmp_ne (off := (6)) (t := 23) (q := 20) (by decide +kernel) (by decide) rfl (by first | omega | exact bi_rng _) (by first | omega | exact bi_rng _) (fun hc17 => ?_) (fun hc17 => ?_)
    · refine Wk.aload_n (k := 0) (q := 24) (by decide +kernel) rfl rfl rfl ?_
      refine Wk.getR (r := 151) (q := 27) f_Mod_16 (by decide +kernel) O_148 (by decide) rfl rfl rfl ?_
      refine Wk.aload_n (k := 0) (q := 28) (by decide +kernel) rfl rfl rfl ?_
      refine Wk.getI (z := 7) (q := 31) f_Mod_131 (by decide +kernel) O_148 (by decide) rfl rfl rfl ?_
      refine Wk.iload_n (k := 1) (q := 32) (by decide +kernel) rfl rfl rfl ?_
      refine Wk.iastore (q := 33) (by decide +kernel) A_151 (by first | omega | exact bi_rng _) (by first | omega | exact bi_rng _) rfl ?_
      refine Wk.aload_n (k := 0) (q := 34) (by decide +kernel) rfl rfl rfl ?_
      refine Wk.getR (r := 152) (q := 37) f_Mod_19 (by decide +kernel) O_148 (by decide) rfl rfl rfl ?_
      refine Wk.aload_n (k := 0) (q := 38) (by decide +kernel) rfl rfl rfl ?_
      refine Wk.getI (z := 7) (q := 41) f_Mod_131 (by decide +kernel) O_148 (by decide) rfl rfl rfl ?_
      rw [iup_ne (by omega)]
      refine Wk.iload_n (k := 2) (q := 42) (by decide +kernel) rfl rfl rfl ?_
      refine Wk.iastore (q := 43) (by decide +kernel) A_152 (by first | omega | exact bi_rng _) (by first | omega | exact bi_rng _) rfl ?_
      refine Wk.aload_n (k := 0) (q := 44) (by decide +kernel) rfl rfl rfl ?_
      refine Wk.dup (q := 45) (by decide +kernel) rfl rfl ?_
      refine Wk.getI (z := 7) (q := 48) f_Mod_131 (by decide +kernel) O_148 (by decide) rfl rfl rfl ?_
      rw [iup_ne (by omega), iup_ne (by omega)]
      refine Wk.iconst (n := 1) (q := 49) (by decide +kernel) rfl ?_
      refine Wk.iadd (q := 50) (by decide +kernel) rfl ?_
      refine Wk.putI (z := 7) (q := 53) f_Mod_131 fw_Mod_7 (by decide +kernel) O_148 (by decide) rfl rfl ⟨rfl, rfl⟩ rfl ?_
      refine Wk.aload_n (k := 0) (q := 54) (by decide +kernel) rfl rfl rfl ?_
      refine Wk.getI (z := 7) (q := 57) f_Mod_131 (by decide +kernel) O_148 (by decide) rfl rfl rfl ?_
      exact Wk.riP (by decide +kernel) rfl (⟨⟨_, rfl, Or.inr (Or.inr ⟨hc5, hc17, iup_at _ _ _ _, rfl⟩)⟩, rfl⟩)
    · refine Wk.ldc (z := (-1000000004)) (q := 22) k_Mod_194 (by decide +kernel) (by decide +kernel) rfl ?_
      exact Wk.riP (by decide +kernel) rfl (⟨⟨_, rfl, Or.inr (Or.inl ⟨hc5, hc17, rfl, rfl⟩)⟩, rfl⟩)
  · refine Wk.ldc (z := (-1000000001)) (q := 10) k_Mod_160 (by decide +kernel) (by decide +kernel) rfl ?_
    exact Wk.riP (by decide +kernel) rfl (⟨⟨_, rfl, Or.inl ⟨hc5, rfl, rfl⟩⟩, rfl⟩)
theorem c_Sw_tear : Wk xs x_Sw_tear d 0 0 0 [some (vr 0), none] [] X2 I L (p2 fun u I' _ => ∃ z, u = some (vi z) ∧ (z = I 128 2 ∧ I' = iup I 128 2 0)) := by
  refine Wk.aload_n (k := 0) (q := 1) (by decide +kernel) rfl rfl rfl ?_
  refine Wk.getR (r := 128) (q := 4) f_Sw_33 (by decide +kernel) O_0 (by decide) rfl rfl rfl ?_
  refine Wk.getI (z := 2) (q := 7) f_Sw_93 (by decide +kernel) O_128 (by decide) rfl rfl rfl ?_
  refine Wk.istore_n (k := 1) (q := 8) (by decide +kernel) rfl (by decide) rfl (fun _ h => h) rfl ?_
  refine Wk.aload_n (k := 0) (q := 9) (by decide +kernel) rfl rfl rfl ?_
  refine Wk.getR (r := 128) (q := 12) f_Sw_33 (by decide +kernel) O_0 (by decide) rfl rfl rfl ?_
  refine Wk.iconst (n := 0) (q := 13) (by decide +kernel) rfl ?_
  refine Wk.putI (z := 2) (q := 16) f_Sw_93 fw_Book_2 (by decide +kernel) O_128 (by decide) rfl rfl ⟨rfl, rfl⟩ rfl ?_
  refine Wk.iload_n (k := 1) (q := 17) (by decide +kernel) rfl rfl rfl ?_
  exact Wk.riP (by decide +kernel) rfl (⟨_, rfl, rfl, rfl⟩)
theorem c_Mod_tear : Wk xs x_Mod_tear d 0 0 0 [some (vr 148), none] [] X2 I L (p2 fun u I' L' => (∃ z, u = some (vi z) ∧ (z = I 148 7 ∧ I' = iup I 148 7 0)) ∧ L' = L) := by
  refine Wk.aload_n (k := 0) (q := 1) (by decide +kernel) rfl rfl rfl ?_
  refine Wk.getI (z := 7) (q := 4) f_Mod_131 (by decide +kernel) O_148 (by decide) rfl rfl rfl ?_
  refine Wk.istore_n (k := 1) (q := 5) (by decide +kernel) rfl (by decide) rfl (fun _ h => h) rfl ?_
  refine Wk.aload_n (k := 0) (q := 6) (by decide +kernel) rfl rfl rfl ?_
  refine Wk.iconst (n := 0) (q := 7) (by decide +kernel) rfl ?_
  refine Wk.putI (z := 7) (q := 10) f_Mod_131 fw_Mod_7 (by decide +kernel) O_148 (by decide) rfl rfl ⟨rfl, rfl⟩ rfl ?_
  refine Wk.iload_n (k := 1) (q := 11) (by decide +kernel) rfl rfl rfl ?_
  exact Wk.riP (by decide +kernel) rfl (⟨⟨_, rfl, rfl, rfl⟩, rfl⟩)
theorem c_Sw_seed {v : Int} (hv : -2147483648 ≤ v ∧ v ≤ 2147483647) : Wk xs x_Sw_seed d 0 0 0 [some (vr 0), some (vi v), none] [] X2 I L (p2 fun u I' _ => ∃ z, u = some (vi z) ∧ ((v < 0 ∧ z = -1000000002 ∧ I' = I) ∨ (¬ v < 0 ∧ z = I 0 5 ∧ I' = iup I 0 5 v))) := by
  refine Wk.iload_n (k := 1) (q := 1) (by decide +kernel) rfl rfl rfl ?_
  refine Wk.if_ge (off := (6)) (t := 7) (q := 4) (by decide +kernel) (by decide) rfl (by first | omega | exact bi_rng _) (fun hc1 => ?_) (fun hc1 => ?_)
  · refine Wk.aload_n (k := 0) (q := 8) (by decide +kernel) rfl rfl rfl ?_
    refine Wk.getI (z := 5) (q := 11) f_Sw_44 (by decide +kernel) O_0 (by decide) rfl rfl rfl ?_
    refine Wk.istore_n (k := 2) (q := 12) (by decide +kernel) rfl (by decide) rfl (fun _ h => h) rfl ?_
    refine Wk.aload_n (k := 0) (q := 13) (by decide +kernel) rfl rfl rfl ?_
    refine Wk.iload_n (k := 1) (q := 14) (by decide +kernel) rfl rfl rfl ?_
    refine Wk.putI (z := 5) (q := 17) f_Sw_44 fw_Sw_5 (by decide +kernel) O_0 (by decide) rfl rfl ⟨rfl, rfl⟩ rfl ?_
    refine Wk.iload_n (k := 2) (q := 18) (by decide +kernel) rfl rfl rfl ?_
    exact Wk.riP (by decide +kernel) rfl (⟨_, rfl, Or.inr ⟨(by omega), rfl, rfl⟩⟩)
  · refine Wk.ldc (z := (-1000000002)) (q := 6) k_Sw_102 (by decide +kernel) (by decide +kernel) rfl ?_
    exact Wk.riP (by decide +kernel) rfl (⟨_, rfl, Or.inl ⟨(by omega), rfl, rfl⟩⟩)
theorem c_Mod_seed {v : Int} (hv : -2147483648 ≤ v ∧ v ≤ 2147483647) : Wk xs x_Mod_seed d 0 0 0 [some (vr 148), some (vi v), none] [] X2 I L (p2 fun u I' L' => (∃ z, u = some (vi z) ∧ ((v < 0 ∧ z = -1000000002 ∧ I' = I) ∨ (¬ v < 0 ∧ z = I 148 3 ∧ I' = iup I 148 3 v))) ∧ L' = L) := by
  refine Wk.iload_n (k := 1) (q := 1) (by decide +kernel) rfl rfl rfl ?_
  refine Wk.if_ge (off := (6)) (t := 7) (q := 4) (by decide +kernel) (by decide) rfl (by first | omega | exact bi_rng _) (fun hc1 => ?_) (fun hc1 => ?_)
  · refine Wk.aload_n (k := 0) (q := 8) (by decide +kernel) rfl rfl rfl ?_
    refine Wk.getI (z := 3) (q := 11) f_Mod_156 (by decide +kernel) O_148 (by decide) rfl rfl rfl ?_
    refine Wk.istore_n (k := 2) (q := 12) (by decide +kernel) rfl (by decide) rfl (fun _ h => h) rfl ?_
    refine Wk.aload_n (k := 0) (q := 13) (by decide +kernel) rfl rfl rfl ?_
    refine Wk.iload_n (k := 1) (q := 14) (by decide +kernel) rfl rfl rfl ?_
    refine Wk.putI (z := 3) (q := 17) f_Mod_156 fw_Mod_3 (by decide +kernel) O_148 (by decide) rfl rfl ⟨rfl, rfl⟩ rfl ?_
    refine Wk.iload_n (k := 2) (q := 18) (by decide +kernel) rfl rfl rfl ?_
    exact Wk.riP (by decide +kernel) rfl (⟨⟨_, rfl, Or.inr ⟨(by omega), rfl, rfl⟩⟩, rfl⟩)
  · refine Wk.ldc (z := (-1000000002)) (q := 6) k_Mod_159 (by decide +kernel) (by decide +kernel) rfl ?_
    exact Wk.riP (by decide +kernel) rfl (⟨⟨_, rfl, Or.inl ⟨(by omega), rfl, rfl⟩⟩, rfl⟩)
end DEF
