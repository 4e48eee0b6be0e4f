/-! DEEDS: ships come; images -/
theorem moo_4 (I : IM) (k c : Int) : moo I k c 149 4 = I 149 4 + 1 := iup_at _ _ _ _
theorem moo_5 {I : IM} {k c : Int} (h : 0 ≤ I 149 4) : moo I k c 149 5 = I 149 5 := by
  unfold moo
  rw [iup_ne (by omega), iup_ne (by omega)]
  simp only [mo0, true_and]
  rw [if_neg (by omega)]
theorem unw_4 {I : IM} {k : Int} (h : 0 ≤ k) : unw I k 149 4 = I 149 4 := by
  simp only [unw, shW, true_and]
  rw [if_neg (by omega), if_neg (by omega)]
section DEG
variable {xs : RO} {d : Nat} {I : IM} {L : LM}

theorem c_Mod_arrive {a b c : Int} (ha : -2147483648 ≤ a ∧ a ≤ 2147483647) (hb : -2147483648 ≤ b ∧ b ≤ 2147483647) (hcc : -2147483648 ≤ c ∧ c ≤ 2147483647) (hM : MW I) (hK0 : 0 ≤ I 148 1) (hK1 : I 148 1 ≤ 16) : Wk xs x_Mod_arrive (d + 3) 0 0 0 [some (vr 148), some (vi a), some (vi b), some (vi c), none] [] X2 I L (p2 fun u I' L' => (∃ z, u = some (vi z) ∧ ((¬ ((1 ≤ a ∧ a ≤ 9) ∧ (0 ≤ b ∧ b ≤ 2) ∧ (1 ≤ c ∧ c ≤ 2)) ∧ z = -1000000002 ∧ I' = I) ∨ (((1 ≤ a ∧ a ≤ 9) ∧ (0 ≤ b ∧ b ≤ 2) ∧ (1 ≤ c ∧ c ≤ 2)) ∧ I 149 5 = 3 ∧ z = -1000000004 ∧ I' = I) ∨ (((1 ≤ a ∧ a ≤ 9) ∧ (0 ≤ b ∧ b ≤ 2) ∧ (1 ≤ c ∧ c ≤ 2)) ∧ ¬ I 149 5 = 3 ∧ z = I 149 5 ∧ I' = iup (iup (iup (iup (remM I) 149 (75 + 4 * I 149 5) a) 149 (75 + 4 * I 149 5 + 1) b) 149 (75 + 4 * I 149 5 + 2) c) 149 5 (I 149 5 + 1)))) ∧ L' = L) := by
  obtain ⟨hI, hS, hQ⟩ := id hM
  obtain ⟨hW, hH, hT, hF, hA, hK, hD⟩ := id hI
  have h49 := WH49 (W := I 149 0) (H := I 149 1) (by omega) (by omega)
  have hRl : ∀ b, b < 90 → remM I 149 b = I 149 b := fun b hb => by
    show (if 149 = 149 then remW (I 148 1) (I 149) b else _) = _
    rw [if_pos rfl]
    exact remW_lo (by omega) (Or.inl hb)
  have e5 := hRl 5 (by decide)
  refine Wk.iload_n (k := 1) (q := 1) (by decide +kernel) rfl rfl rfl ?_
  refine Wk.iconst (n := 1) (q := 2) (by decide +kernel) rfl ?_
  refine Wk.bipush (n := 9) (q := 4) (by decide +kernel) (by decide +kernel) rfl ?_
  refine Wk.cSi (q := 7) l_Mod_36 m_Mod_in (by decide +kernel) (fun _ h => h) (Nat.le_of_ble_eq_true rfl) (Nat.le_of_ble_eq_true rfl) rfl (c_Mod_in ha (by omega) (by omega)) rfl ?_
  refine Wk.ifB_eq (off := (21)) (t := 28) (q := 10) (by decide +kernel) (by decide) rfl (fun hc7 => ?_) (fun hc7 => ?_)
  · refine Wk.ldc (z := (-1000000002)) (q := 30) k_Mod_159 (by decide +kernel) (by decide +kernel) rfl ?_
    exact Wk.riP (by decide +kernel) rfl (⟨⟨_, rfl, Or.inl ⟨(by omega), rfl, rfl⟩⟩, rfl⟩)
  · refine Wk.iload_n (k := 2) (q := 11) (by decide +kernel) rfl rfl rfl ?_
    refine Wk.iconst (n := 0) (q := 12) (by decide +kernel) rfl ?_
    refine Wk.iconst (n := 2) (q := 13) (by decide +kernel) rfl ?_
    refine Wk.cSi (q := 16) l_Mod_36 m_Mod_in (by decide +kernel) (fun _ h => h) (Nat.le_of_ble_eq_true rfl) (Nat.le_of_ble_eq_true rfl) rfl (c_Mod_in hb (by omega) (by omega)) rfl ?_
    refine Wk.ifB_eq (off := (12)) (t := 28) (q := 19) (by decide +kernel) (by decide) rfl (fun hc16 => ?_) (fun hc16 => ?_)
    · refine Wk.ldc (z := (-1000000002)) (q := 30) k_Mod_159 (by decide +kernel) (by decide +kernel) rfl ?_
      exact Wk.riP (by decide +kernel) rfl (⟨⟨_, rfl, Or.inl ⟨(by omega), rfl, rfl⟩⟩, rfl⟩)
    · refine Wk.iload_n (k := 3) (q := 20) (by decide +kernel) rfl rfl rfl ?_
      refine Wk.iconst (n := 1) (q := 21) (by decide +kernel) rfl ?_
      refine Wk.iconst (n := 2) (q := 22) (by decide +kernel) rfl ?_
      refine Wk.cSi (q := 25) l_Mod_36 m_Mod_in (by decide +kernel) (fun _ h => h) (Nat.le_of_ble_eq_true rfl) (Nat.le_of_ble_eq_true rfl) rfl (c_Mod_in hcc (by omega) (by omega)) rfl ?_
      refine Wk.ifB_ne (off := (6)) (t := 31) (q := 28) (by decide +kernel) (by decide) rfl (fun hc25 => ?_) (fun hc25 => ?_)
      · refine Wk.aload_n (k := 0) (q := 32) (by decide +kernel) rfl rfl rfl ?_
        refine Wk.getR (r := 149) (q := 35) f_Mod_7 (by decide +kernel) O_148 (by decide) rfl rfl rfl ?_
        refine Wk.iconst (n := 5) (q := 36) (by decide +kernel) rfl ?_
        refine Wk.iaload (q := 37) (by decide +kernel) A_149 (by first | omega | exact bi_rng _) (by first | omega | exact bi_rng _) rfl ?_
        refine Wk.iconst (n := 3) (q := 38) (by decide +kernel) rfl ?_
        refine Wk.icmp_ne (off := (6)) (t := 44) (q := 41) (by decide +kernel) (by decide) rfl (by first | omega | exact bi_rng _) (by first | omega | exact bi_rng _) (fun hc38 => ?_) (fun hc38 => ?_)
        · refine Wk.aload_n (k := 0) (q := 45) (by decide +kernel) rfl rfl rfl ?_
          refine Wk.cVv (q := 48) l_Mod_188 m_Mod_remember (by decide +kernel) (fun _ h => h) O_148 rfl (Nat.le_of_ble_eq_true rfl) (Nat.le_of_ble_eq_true rfl) rfl (c_Mod_remember hK0 hK1) rfl ?_
          refine Wk.aload_n (k := 0) (q := 49) (by decide +kernel) rfl rfl rfl ?_
          refine Wk.getR (r := 149) (q := 52) f_Mod_7 (by decide +kernel) O_148 (by decide) rfl rfl rfl ?_
          refine Wk.iconst (n := 5) (q := 53) (by decide +kernel) rfl ?_
          refine Wk.iaload (q := 54) (by decide +kernel) A_149 (by first | omega | exact bi_rng _) (by first | omega | exact bi_rng _) rfl ?_
          rw [e5]
          refine Wk.cSi (q := 57) l_Mod_100 m_Mod_waitAt (by decide +kernel) (fun _ h => h) (Nat.le_of_ble_eq_true rfl) (Nat.le_of_ble_eq_true rfl) rfl (c_Mod_waitAt) rfl ?_
          refine Wk.istore (i := 4) (q := 59) (by decide +kernel) (by decide) rfl (fun _ h => h) rfl ?_
          refine Wk.aload_n (k := 0) (q := 60) (by decide +kernel) rfl rfl rfl ?_
          refine Wk.getR (r := 149) (q := 63) f_Mod_7 (by decide +kernel) O_148 (by decide) rfl rfl rfl ?_
          refine Wk.iload (i := 4) (q := 65) (by decide +kernel) rfl rfl ?_
          refine Wk.iload_n (k := 1) (q := 66) (by decide +kernel) rfl rfl rfl ?_
          refine Wk.iastore (q := 67) (by decide +kernel) A_149 (by first | omega | exact bi_rng _) (by first | omega | exact bi_rng _) rfl ?_
          refine Wk.aload_n (k := 0) (q := 68) (by decide +kernel) rfl rfl rfl ?_
          refine Wk.getR (r := 149) (q := 71) f_Mod_7 (by decide +kernel) O_148 (by decide) rfl rfl rfl ?_
          refine Wk.iload (i := 4) (q := 73) (by decide +kernel) rfl rfl ?_
          refine Wk.iconst (n := 1) (q := 74) (by decide +kernel) rfl ?_
          refine Wk.iadd (q := 75) (by decide +kernel) rfl ?_
          refine Wk.iload_n (k := 2) (q := 76) (by decide +kernel) rfl rfl rfl ?_
          refine Wk.iastore (q := 77) (by decide +kernel) A_149 (by first | omega | exact bi_rng _) (by first | omega | exact bi_rng _) rfl ?_
          refine Wk.aload_n (k := 0) (q := 78) (by decide +kernel) rfl rfl rfl ?_
          refine Wk.getR (r := 149) (q := 81) f_Mod_7 (by decide +kernel) O_148 (by decide) rfl rfl rfl ?_
          refine Wk.iload (i := 4) (q := 83) (by decide +kernel) rfl rfl ?_
          refine Wk.iconst (n := 2) (q := 84) (by decide +kernel) rfl ?_
          refine Wk.iadd (q := 85) (by decide +kernel) rfl ?_
          refine Wk.iload_n (k := 3) (q := 86) (by decide +kernel) rfl rfl rfl ?_
          refine Wk.iastore (q := 87) (by decide +kernel) A_149 (by first | omega | exact bi_rng _) (by first | omega | exact bi_rng _) rfl ?_
          refine Wk.aload_n (k := 0) (q := 88) (by decide +kernel) rfl rfl rfl ?_
          refine Wk.getR (r := 149) (q := 91) f_Mod_7 (by decide +kernel) O_148 (by decide) rfl rfl rfl ?_
          refine Wk.iconst (n := 5) (q := 92) (by decide +kernel) rfl ?_
          refine Wk.dup2 (q := 93) (by decide +kernel) rfl rfl rfl ?_
          refine Wk.iaload (q := 94) (by decide +kernel) A_149 (by first | omega | exact bi_rng _) (by first | omega | exact bi_rng _) rfl ?_
          rw [iup_ne (by omega), iup_ne (by omega), iup_ne (by omega), e5]
          refine Wk.iconst (n := 1) (q := 95) (by decide +kernel) rfl ?_
          refine Wk.iadd (q := 96) (by decide +kernel) rfl ?_
          refine Wk.iastore (q := 97) (by decide +kernel) A_149 (by first | omega | exact bi_rng _) (by first | omega | exact bi_rng _) rfl ?_
          refine Wk.aload_n (k := 0) (q := 98) (by decide +kernel) rfl rfl rfl ?_
          refine Wk.getR (r := 149) (q := 101) f_Mod_7 (by decide +kernel) O_148 (by decide) rfl rfl rfl ?_
          refine Wk.iconst (n := 5) (q := 102) (by decide +kernel) rfl ?_
          refine Wk.iaload (q := 103) (by decide +kernel) A_149 (by first | omega | exact bi_rng _) (by first | omega | exact bi_rng _) rfl ?_
          rw [iup_at]
          refine Wk.iconst (n := 1) (q := 104) (by decide +kernel) rfl ?_
          refine Wk.isub (q := 105) (by decide +kernel) rfl ?_
          exact Wk.riP (by decide +kernel) rfl (⟨⟨_, rfl, Or.inr (Or.inr ⟨(by omega), hc38, (by omega), rfl⟩)⟩, rfl⟩)
        · refine Wk.ldc (z := (-1000000004)) (q := 43) k_Mod_194 (by decide +kernel) (by decide +kernel) rfl ?_
          exact Wk.riP (by decide +kernel) rfl (⟨⟨_, rfl, Or.inr (Or.inl ⟨(by omega), hc38, rfl, rfl⟩)⟩, rfl⟩)
      · refine Wk.ldc (z := (-1000000002)) (q := 30) k_Mod_159 (by decide +kernel) (by decide +kernel) rfl ?_
        exact Wk.riP (by decide +kernel) rfl (⟨⟨_, rfl, Or.inl ⟨(by omega), rfl, rfl⟩⟩, rfl⟩)
theorem c_Mod_come {k c : Int} (h0 : 0 ≤ k) (h1 : k < I 149 5) (h4 : I 149 4 ≤ 4) (hM : MW I) (hK0 : 0 ≤ I 148 1) (hK1 : I 148 1 ≤ 16) : Wk xs x_Mod_come (d + 2) 0 0 0 [some (vr 148), some (vi k), some (vi c)] [] X2 I L (p2 fun u I' L' => u = some (vi (I 149 4)) ∧ I' = unw (moo (remM I) k c) k ∧ L' = L) := by
  obtain ⟨hI, hS, hQ⟩ := id hM
  obtain ⟨hW, hH, hT, hF, hA, hK, hD⟩ := id hI
  have h49 := WH49 (W := I 149 0) (H := I 149 1) (by omega) (by omega)
  have hRl : ∀ b, b < 90 → remM I 149 b = I 149 b := fun b hb => by
    show (if 149 = 149 then remW (I 148 1) (I 149) b else _) = _
    rw [if_pos rfl]
    exact remW_lo (by omega) (Or.inl hb)
  have e5 := hRl 5 (by decide)
  have e4 := hRl 4 (by decide)
  have m5 : moo (remM I) k c 149 5 = I 149 5 := by rw [moo_5 (by rw [e4]; omega), e5]
  refine Wk.aload_n (k := 0) (q := 1) (by decide +kernel) rfl rfl rfl ?_
  refine Wk.cVv (q := 4) l_Mod_188 m_Mod_remember (by decide +kernel) (fun _ h => h) O_148 rfl (Nat.le_of_ble_eq_true rfl) (Nat.le_of_ble_eq_true rfl) rfl (c_Mod_remember hK0 hK1) rfl ?_
  refine Wk.aload_n (k := 0) (q := 5) (by decide +kernel) rfl rfl rfl ?_
  refine Wk.iload_n (k := 1) (q := 6) (by decide +kernel) rfl rfl rfl ?_
  refine Wk.iload_n (k := 2) (q := 7) (by decide +kernel) rfl rfl rfl ?_
  refine Wk.cVv (q := 10) l_Mod_195 m_Mod_moor (by decide +kernel) (fun _ h => h) O_148 rfl (Nat.le_of_ble_eq_true rfl) (Nat.le_of_ble_eq_true rfl) rfl (c_Mod_moor h0 (by omega) (by rw [e4]; omega) (by rw [e4]; omega)) rfl ?_
  refine Wk.aload_n (k := 0) (q := 11) (by decide +kernel) rfl rfl rfl ?_
  refine Wk.iload_n (k := 1) (q := 12) (by decide +kernel) rfl rfl rfl ?_
  refine Wk.cVv (q := 15) l_Mod_198 m_Mod_unwait (by decide +kernel) (fun _ h => h) O_148 rfl (Nat.le_of_ble_eq_true rfl) (Nat.le_of_ble_eq_true rfl) rfl (c_Mod_unwait h0 (by rw [m5]; exact h1) (by rw [m5]; omega)) rfl ?_
  refine Wk.aload_n (k := 0) (q := 16) (by decide +kernel) rfl rfl rfl ?_
  refine Wk.getR (r := 149) (q := 19) f_Mod_7 (by decide +kernel) O_148 (by decide) rfl rfl rfl ?_
  refine Wk.iconst (n := 4) (q := 20) (by decide +kernel) rfl ?_
  refine Wk.iaload (q := 21) (by decide +kernel) A_149 (by first | omega | exact bi_rng _) (by first | omega | exact bi_rng _) rfl ?_
  refine Wk.iconst (n := 1) (q := 22) (by decide +kernel) rfl ?_
  refine Wk.isub (q := 23) (by decide +kernel) rfl ?_
  exact Wk.riP (by decide +kernel) rfl (⟨(by rw [unw_4 h0, moo_4, e4, show I 149 4 + 1 - 1 = I 149 4 by omega]), rfl, rfl⟩)
theorem c_Sw_anchor {k x y : Int} (hk : -2147483648 ≤ k ∧ k ≤ 2147483647) (hx : -2147483648 ≤ x ∧ x ≤ 2147483647) (hy : -2147483648 ≤ y ∧ y ≤ 2147483647) (hI : Cur I) (HH : Hst I) : Wk xs x_Sw_anchor (d + 8) 0 0 0 [some (vr 0), some (vi k), some (vi x), some (vi y), none] [] X2 I L (p2 fun u I' _ => ∃ z, u = some (vi z) ∧ ((¬ ((0 ≤ k ∧ k < I 1 5) ∧ inE (I 1 0) (I 1 1) x y) ∧ z = -1000000001 ∧ I' = I) ∨ (((0 ≤ k ∧ k < I 1 5) ∧ inE (I 1 0) (I 1 1) x y) ∧ ¬ cPlace I k x y ∧ z = -1000000003 ∧ I' = I) ∨ (((0 ≤ k ∧ k < I 1 5) ∧ inE (I 1 0) (I 1 1) x y) ∧ cPlace I k x y ∧ ¬ I 1 4 < 5 ∧ z = -1000000004 ∧ I' = I) ∨ (((0 ≤ k ∧ k < I 1 5) ∧ inE (I 1 0) (I 1 1) x y) ∧ cPlace I k x y ∧ I 1 4 < 5 ∧ z = I 1 4 ∧ ∃ Ia, RemC I Ia ∧ I' = toAnch Ia k (y * 8 + x)))) := by
  have hc : Cur I := hI
  have hC : CW I := hc.1
  obtain ⟨hW, hH, hT, hF, hA, hB, hD⟩ := id hC.1
  refine Wk.aload_n (k := 0) (q := 1) (by decide +kernel) rfl rfl rfl ?_
  refine Wk.getR (r := 1) (q := 4) f_Sw_12 (by decide +kernel) O_0 (by decide) rfl rfl rfl ?_
  refine Wk.iload_n (k := 1) (q := 5) (by decide +kernel) rfl rfl rfl ?_
  refine Wk.cVi (q := 8) l_Sw_162 m_Harb_hasWaiting (by decide +kernel) (fun _ h => h) O_1 rfl (Nat.le_of_ble_eq_true rfl) (Nat.le_of_ble_eq_true rfl) rfl (c_Harb_hasWaiting hk hB) rfl ?_
  refine Wk.ifB_eq (off := (15)) (t := 23) (q := 11) (by decide +kernel) (by decide) rfl (fun hc8 => ?_) (fun hc8 => ?_)
  · refine Wk.ldc (z := (-1000000001)) (q := 25) k_Sw_107 (by decide +kernel) (by decide +kernel) rfl ?_
    exact Wk.riP (by decide +kernel) rfl (⟨_, rfl, Or.inl ⟨(fun z => by first | exact hc8 z.1 | exact hc20 z.2), rfl, rfl⟩⟩)
  · refine Wk.aload_n (k := 0) (q := 12) (by decide +kernel) rfl rfl rfl ?_
    refine Wk.getR (r := 1) (q := 15) f_Sw_12 (by decide +kernel) O_0 (by decide) rfl rfl rfl ?_
    refine Wk.iload_n (k := 2) (q := 16) (by decide +kernel) rfl rfl rfl ?_
    refine Wk.iload_n (k := 3) (q := 17) (by decide +kernel) rfl rfl rfl ?_
    refine Wk.cVi (q := 20) l_Sw_103 m_Harb_hasCell (by decide +kernel) (fun _ h => h) O_1 rfl (Nat.le_of_ble_eq_true rfl) (Nat.le_of_ble_eq_true rfl) rfl (c_Harb_hasCell hx hy (by omega) (by omega)) rfl ?_
    refine Wk.ifB_ne (off := (6)) (t := 26) (q := 23) (by decide +kernel) (by decide) rfl (fun hc20 => ?_) (fun hc20 => ?_)
    · obtain ⟨hx0, hx1, hy0, hy1⟩ := id hc20
      refine Wk.iload_n (k := 2) (q := 27) (by decide +kernel) rfl rfl rfl ?_
      refine Wk.iload_n (k := 3) (q := 28) (by decide +kernel) rfl rfl rfl ?_
      refine Wk.cSi (q := 31) l_Sw_115 m_Sw_spotAt (by decide +kernel) (fun _ h => h) (Nat.le_of_ble_eq_true rfl) (Nat.le_of_ble_eq_true rfl) rfl (c_Sw_spotAt) rfl ?_
      refine Wk.istore (i := 4) (q := 33) (by decide +kernel) (by decide) rfl (fun _ h => h) rfl ?_
      refine Wk.aload_n (k := 0) (q := 34) (by decide +kernel) rfl rfl rfl ?_
      refine Wk.getR (r := 122) (q := 37) f_Sw_26 (by decide +kernel) O_0 (by decide) rfl rfl rfl ?_
      refine Wk.aload_n (k := 0) (q := 38) (by decide +kernel) rfl rfl rfl ?_
      refine Wk.getR (r := 1) (q := 41) f_Sw_12 (by decide +kernel) O_0 (by decide) rfl rfl rfl ?_
      refine Wk.iload_n (k := 1) (q := 42) (by decide +kernel) rfl rfl rfl ?_
      refine Wk.cV (q := 45) l_Sw_165 m_Sear_placesFor (by decide +kernel) (fun _ h => h) O_122 rfl (Nat.le_of_ble_eq_true rfl) (Nat.le_of_ble_eq_true rfl) rfl (c_Sear_placesFor hc8.1 hc8.2 hC) rfl (fun v9 I9 L9 hP9 => ?_)
      obtain ⟨⟨u, rfl, hu⟩, e9⟩ := hP9
      rw [e9]
      have hat := hu.at (x := x) (y := y) (by omega) (by omega)
      refine Wk.iload (i := 4) (q := 47) (by decide +kernel) rfl rfl ?_
      refine Wk.cSi (q := 50) l_Sw_213 m_Sw_holds (by decide +kernel) (fun _ h => h) (Nat.le_of_ble_eq_true rfl) (Nat.le_of_ble_eq_true rfl) rfl (c_Sw_holds (by omega) (by omega)) rfl ?_
      refine Wk.ifB_ne (off := (6)) (t := 56) (q := 53) (by decide +kernel) (by decide) rfl (fun hc50 => ?_) (fun hc50 => ?_)
      · refine Wk.aload_n (k := 0) (q := 57) (by decide +kernel) rfl rfl rfl ?_
        refine Wk.getR (r := 1) (q := 60) f_Sw_12 (by decide +kernel) O_0 (by decide) rfl rfl rfl ?_
        refine Wk.getI (z := 4) (q := 63) f_Sw_60 (by decide +kernel) O_1 (by decide) rfl rfl rfl ?_
        refine Wk.iconst (n := 5) (q := 64) (by decide +kernel) rfl ?_
        refine Wk.icmp_lt (off := (6)) (t := 70) (q := 67) (by decide +kernel) (by decide) rfl (by first | omega | exact bi_rng _) (by first | omega | exact bi_rng _) (fun hc64 => ?_) (fun hc64 => ?_)
        · refine Wk.aload_n (k := 0) (q := 71) (by decide +kernel) rfl rfl rfl ?_
          refine Wk.getR (r := 8) (q := 74) f_Sw_19 (by decide +kernel) O_0 (by decide) rfl rfl rfl ?_
          refine Wk.aload_n (k := 0) (q := 75) (by decide +kernel) rfl rfl rfl ?_
          refine Wk.getR (r := 1) (q := 78) f_Sw_12 (by decide +kernel) O_0 (by decide) rfl rfl rfl ?_
          refine Wk.cV (q := 81) l_Sw_197 m_Hist_remember (by decide +kernel) (fun _ h => h) O_8 rfl (Nat.le_of_ble_eq_true rfl) (Nat.le_of_ble_eq_true rfl) rfl (c_Hist_remember HH.1 HH.2.1) rfl (fun v0 Ia La hP => ?_)
          obtain ⟨rfl, ⟨J, hJ, eA⟩, eL⟩ := hP
          have hRem : RemC I Ia := by rw [eA]; exact RemC.of hJ
          have e1 : Ia 1 = I 1 := hRem.lo (by decide)
          refine Wk.aload_n (k := 0) (q := 82) (by decide +kernel) rfl rfl rfl ?_
          refine Wk.getR (r := 1) (q := 85) f_Sw_12 (by decide +kernel) O_0 (by decide) rfl rfl rfl ?_
          refine Wk.iload_n (k := 1) (q := 86) (by decide +kernel) rfl rfl rfl ?_
          refine Wk.iload (i := 4) (q := 88) (by decide +kernel) rfl rfl ?_
          refine Wk.cVv (q := 91) l_Sw_218 m_Harb_bringToAnchor (by decide +kernel) (fun _ h => h) O_1 rfl (Nat.le_of_ble_eq_true rfl) (Nat.le_of_ble_eq_true rfl) rfl (c_Harb_bringToAnchor hc8.1 (by rw [e1]; exact hc8.2) (by rw [e1]; omega) (by rw [e1]; omega) (by omega)) rfl ?_
          refine Wk.aload_n (k := 0) (q := 92) (by decide +kernel) rfl rfl rfl ?_
          refine Wk.getR (r := 1) (q := 95) f_Sw_12 (by decide +kernel) O_0 (by decide) rfl rfl rfl ?_
          refine Wk.getI (z := 4) (q := 98) f_Sw_60 (by decide +kernel) O_1 (by decide) rfl rfl rfl ?_
          refine Wk.iconst (n := 1) (q := 99) (by decide +kernel) rfl ?_
          refine Wk.isub (q := 100) (by decide +kernel) rfl ?_
          exact Wk.riP (by decide +kernel) rfl (⟨_, rfl, Or.inr (Or.inr (Or.inr ⟨⟨hc8, hc20⟩, hat.mp hc50, hc64, (by rw [toAnch_14, e1]; omega), Ia, hRem, rfl⟩))⟩)
        · refine Wk.ldc (z := (-1000000004)) (q := 69) k_Sw_208 (by decide +kernel) (by decide +kernel) rfl ?_
          exact Wk.riP (by decide +kernel) rfl (⟨_, rfl, Or.inr (Or.inr (Or.inl ⟨⟨hc8, hc20⟩, hat.mp hc50, (by omega), rfl, rfl⟩))⟩)
      · refine Wk.ldc (z := (-1000000003)) (q := 55) k_Sw_217 (by decide +kernel) (by decide +kernel) rfl ?_
        exact Wk.riP (by decide +kernel) rfl (⟨_, rfl, Or.inr (Or.inl ⟨⟨hc8, hc20⟩, (fun z => hc50 (hat.mpr z)), rfl, rfl⟩)⟩)
    · refine Wk.ldc (z := (-1000000001)) (q := 25) k_Sw_107 (by decide +kernel) (by decide +kernel) rfl ?_
      exact Wk.riP (by decide +kernel) rfl (⟨_, rfl, Or.inl ⟨(fun z => by first | exact hc8 z.1 | exact hc20 z.2), rfl, rfl⟩⟩)
theorem c_Mod_anchor {k x y : Int} (hk : -2147483648 ≤ k ∧ k ≤ 2147483647) (hx : -2147483648 ≤ x ∧ x ≤ 2147483647) (hy : -2147483648 ≤ y ∧ y ≤ 2147483647) (hM : MW I) (hK0 : 0 ≤ I 148 1) (hK1 : I 148 1 ≤ 16) : Wk xs x_Mod_anchor (d + 7) 0 0 0 [some (vr 148), some (vi k), some (vi x), some (vi y), none] [] X2 I L (p2 fun u I' L' => (∃ z, u = some (vi z) ∧ ((¬ ((0 ≤ k ∧ k < I 149 5) ∧ inE (I 149 0) (I 149 1) x y) ∧ z = -1000000001 ∧ I' = I) ∨ (((0 ≤ k ∧ k < I 149 5) ∧ inE (I 149 0) (I 149 1) x y) ∧ ¬ mFr I (75 + 4 * k) 0 (y * I 149 0 + x) ∧ z = -1000000003 ∧ I' = I) ∨ (((0 ≤ k ∧ k < I 149 5) ∧ inE (I 149 0) (I 149 1) x y) ∧ mFr I (75 + 4 * k) 0 (y * I 149 0 + x) ∧ I 149 4 = 5 ∧ z = -1000000004 ∧ I' = I) ∨ (((0 ≤ k ∧ k < I 149 5) ∧ inE (I 149 0) (I 149 1) x y) ∧ mFr I (75 + 4 * k) 0 (y * I 149 0 + x) ∧ ¬ I 149 4 = 5 ∧ z = I 149 4 ∧ I' = unw (moo (remM I) k (y * I 149 0 + x)) k))) ∧ L' = L) := by
  obtain ⟨hI, hS, hQ⟩ := id hM
  obtain ⟨hW, hH, hT, hF, hA, hK, hD⟩ := id hI
  have h49 := WH49 (W := I 149 0) (H := I 149 1) (by omega) (by omega)
  have hRl : ∀ b, b < 90 → remM I 149 b = I 149 b := fun b hb => by
    show (if 149 = 149 then remW (I 148 1) (I 149) b else _) = _
    rw [if_pos rfl]
    exact remW_lo (by omega) (Or.inl hb)
  refine Wk.aload_n (k := 0) (q := 1) (by decide +kernel) rfl rfl rfl ?_
  refine Wk.iload_n (k := 1) (q := 2) (by decide +kernel) rfl rfl rfl ?_
  refine Wk.cVi (q := 5) l_Mod_170 m_Mod_isWaiting (by decide +kernel) (fun _ h => h) O_148 rfl (Nat.le_of_ble_eq_true rfl) (Nat.le_of_ble_eq_true rfl) rfl (c_Mod_isWaiting hk hI) rfl ?_
  refine Wk.ifB_eq (off := (12)) (t := 17) (q := 8) (by decide +kernel) (by decide) rfl (fun hc5 => ?_) (fun hc5 => ?_)
  · refine Wk.ldc (z := (-1000000001)) (q := 19) k_Mod_160 (by decide +kernel) (by decide +kernel) rfl ?_
    exact Wk.riP (by decide +kernel) rfl (⟨⟨_, rfl, Or.inl ⟨(fun z => by first | exact hc5 z.1 | exact hc14 z.2), rfl, rfl⟩⟩, rfl⟩)
  · refine Wk.aload_n (k := 0) (q := 9) (by decide +kernel) rfl rfl rfl ?_
    refine Wk.iload_n (k := 2) (q := 10) (by decide +kernel) rfl rfl rfl ?_
    refine Wk.iload_n (k := 3) (q := 11) (by decide +kernel) rfl rfl rfl ?_
    refine Wk.cVi (q := 14) l_Mod_40 m_Mod_isCell (by decide +kernel) (fun _ h => h) O_148 rfl (Nat.le_of_ble_eq_true rfl) (Nat.le_of_ble_eq_true rfl) rfl (c_Mod_isCell hx hy hI) rfl ?_
    refine Wk.ifB_ne (off := (6)) (t := 20) (q := 17) (by decide +kernel) (by decide) rfl (fun hc14 => ?_) (fun hc14 => ?_)
    · have hcb := cellB (W := I 149 0) (H := I 149 1) (x := x) (y := y) ⟨hc14.1, hc14.2.1⟩ ⟨hc14.2.2.1, hc14.2.2.2⟩
      refine Wk.iload_n (k := 3) (q := 21) (by decide +kernel) rfl rfl rfl ?_
      refine Wk.aload_n (k := 0) (q := 22) (by decide +kernel) rfl rfl rfl ?_
      refine Wk.getR (r := 149) (q := 25) f_Mod_7 (by decide +kernel) O_148 (by decide) rfl rfl rfl ?_
      refine Wk.iconst (n := 0) (q := 26) (by decide +kernel) rfl ?_
      refine Wk.iaload (q := 27) (by decide +kernel) A_149 (by first | omega | exact bi_rng _) (by first | omega | exact bi_rng _) rfl ?_
      refine Wk.imul (q := 28) (by decide +kernel) rfl ?_
      refine Wk.iload_n (k := 2) (q := 29) (by decide +kernel) rfl rfl rfl ?_
      refine Wk.iadd (q := 30) (by decide +kernel) rfl ?_
      refine Wk.istore (i := 4) (q := 32) (by decide +kernel) (by decide) rfl (fun _ h => h) rfl ?_
      refine Wk.aload_n (k := 0) (q := 33) (by decide +kernel) rfl rfl rfl ?_
      refine Wk.iload_n (k := 1) (q := 34) (by decide +kernel) rfl rfl rfl ?_
      refine Wk.cSi (q := 37) l_Mod_100 m_Mod_waitAt (by decide +kernel) (fun _ h => h) (Nat.le_of_ble_eq_true rfl) (Nat.le_of_ble_eq_true rfl) rfl (c_Mod_waitAt) rfl ?_
      refine Wk.iload (i := 4) (q := 39) (by decide +kernel) rfl rfl ?_
      refine Wk.iconst (n := 0) (q := 40) (by decide +kernel) rfl ?_
      refine Wk.cVi (q := 43) l_Mod_103 m_Mod_isFree (by decide +kernel) (fun _ h => h) O_148 rfl (Nat.le_of_ble_eq_true rfl) (Nat.le_of_ble_eq_true rfl) rfl (c_Mod_isFree hM (hQ k hc5.1 hc5.2) ⟨hcb.1, hcb.2.1⟩ (by omega)) rfl ?_
      refine Wk.ifB_ne (off := (6)) (t := 49) (q := 46) (by decide +kernel) (by decide) rfl (fun hc43 => ?_) (fun hc43 => ?_)
      · refine Wk.aload_n (k := 0) (q := 50) (by decide +kernel) rfl rfl rfl ?_
        refine Wk.getR (r := 149) (q := 53) f_Mod_7 (by decide +kernel) O_148 (by decide) rfl rfl rfl ?_
        refine Wk.iconst (n := 4) (q := 54) (by decide +kernel) rfl ?_
        refine Wk.iaload (q := 55) (by decide +kernel) A_149 (by first | omega | exact bi_rng _) (by first | omega | exact bi_rng _) rfl ?_
        refine Wk.iconst (n := 5) (q := 56) (by decide +kernel) rfl ?_
        refine Wk.icmp_ne (off := (8)) (t := 64) (q := 59) (by decide +kernel) (by decide) rfl (by first | omega | exact bi_rng _) (by first | omega | exact bi_rng _) (fun hc56 => ?_) (fun hc56 => ?_)
        · refine Wk.aload_n (k := 0) (q := 65) (by decide +kernel) rfl rfl rfl ?_
          refine Wk.iload_n (k := 1) (q := 66) (by decide +kernel) rfl rfl rfl ?_
          refine Wk.iload (i := 4) (q := 68) (by decide +kernel) rfl rfl ?_
          refine Wk.cV (q := 71) l_Mod_203 m_Mod_come (by decide +kernel) (fun _ h => h) O_148 rfl (Nat.le_of_ble_eq_true rfl) (Nat.le_of_ble_eq_true rfl) rfl (c_Mod_come hc5.1 hc5.2 (by omega) hM hK0 hK1) rfl (fun v0 Ia La hP => ?_)
          obtain ⟨rfl, eA, eL⟩ := hP
          exact Wk.riP (by decide +kernel) rfl (by first | exact ⟨⟨_, rfl, Or.inr (Or.inr (Or.inl ⟨⟨hc5, hc14⟩, hc43, hc56, rfl, rfl⟩))⟩, rfl⟩ | exact ⟨⟨_, rfl, Or.inr (Or.inr (Or.inr ⟨⟨hc5, hc14⟩, hc43, hc56, rfl, eA⟩))⟩, eL⟩)
        · refine Wk.ldc (z := (-1000000004)) (q := 61) k_Mod_194 (by decide +kernel) (by decide +kernel) rfl ?_
          refine Wk.goto (off := (10)) (q := 71) (by decide +kernel) (by decide) ?_
          exact Wk.riP (by decide +kernel) rfl (by first | exact ⟨⟨_, rfl, Or.inr (Or.inr (Or.inl ⟨⟨hc5, hc14⟩, hc43, hc56, rfl, rfl⟩))⟩, rfl⟩ | exact ⟨⟨_, rfl, Or.inr (Or.inr (Or.inr ⟨⟨hc5, hc14⟩, hc43, hc56, rfl, eA⟩))⟩, eL⟩)
      · refine Wk.ldc (z := (-1000000003)) (q := 48) k_Mod_202 (by decide +kernel) (by decide +kernel) rfl ?_
        exact Wk.riP (by decide +kernel) rfl (⟨⟨_, rfl, Or.inr (Or.inl ⟨⟨hc5, hc14⟩, hc43, rfl, rfl⟩)⟩, rfl⟩)
    · refine Wk.ldc (z := (-1000000001)) (q := 19) k_Mod_160 (by decide +kernel) (by decide +kernel) rfl ?_
      exact Wk.riP (by decide +kernel) rfl (⟨⟨_, rfl, Or.inl ⟨(fun z => by first | exact hc5 z.1 | exact hc14 z.2), rfl, rfl⟩⟩, rfl⟩)
theorem c_Sw_fit {k : Int} (hk : -2147483648 ≤ k ∧ k ≤ 2147483647) (hI : Cur I) (HH : Hst I) : Wk xs x_Sw_fit (d + 8) 0 0 0 [some (vr 0), some (vi k), none] [] X2 I L (p2 fun u I' _ => ∃ z, u = some (vi z) ∧ ((¬ (0 ≤ k ∧ k < I 1 5) ∧ z = -1000000001 ∧ I' = I) ∨ ((0 ≤ k ∧ k < I 1 5) ∧ ∃ (u : Int64) (s : Int), LB u (cPlace I k) ∧ ((s = -1 ∧ ∀ i, 0 ≤ i → i < 64 → bl u i = false) ∨ (0 ≤ s ∧ s < 64 ∧ bl u s = true ∧ ∀ i, 0 ≤ i → i < s → bl u i = false)) ∧ ((s = -1 ∧ z = -1000000003 ∧ I' = I) ∨ (¬ s = -1 ∧ ¬ I 1 4 < 5 ∧ z = -1000000004 ∧ I' = I) ∨ (¬ s = -1 ∧ I 1 4 < 5 ∧ z = (s / 8) * I 1 0 + s % 8 ∧ ∃ Ia, RemC I Ia ∧ I' = toAnch Ia k s))))) := by
  have hc : Cur I := hI
  have hC : CW I := hc.1
  obtain ⟨hW, hH, hT, hF, hA, hB, hD⟩ := id hC.1
  refine Wk.aload_n (k := 0) (q := 1) (by decide +kernel) rfl rfl rfl ?_
  refine Wk.getR (r := 1) (q := 4) f_Sw_12 (by decide +kernel) O_0 (by decide) rfl rfl rfl ?_
  refine Wk.iload_n (k := 1) (q := 5) (by decide +kernel) rfl rfl rfl ?_
  refine Wk.cVi (q := 8) l_Sw_162 m_Harb_hasWaiting (by decide +kernel) (fun _ h => h) O_1 rfl (Nat.le_of_ble_eq_true rfl) (Nat.le_of_ble_eq_true rfl) rfl (c_Harb_hasWaiting hk hB) rfl ?_
  refine Wk.ifB_ne (off := (6)) (t := 14) (q := 11) (by decide +kernel) (by decide) rfl (fun hc8 => ?_) (fun hc8 => ?_)
  · refine Wk.aload_n (k := 0) (q := 15) (by decide +kernel) rfl rfl rfl ?_
    refine Wk.getR (r := 122) (q := 18) f_Sw_26 (by decide +kernel) O_0 (by decide) rfl rfl rfl ?_
    refine Wk.aload_n (k := 0) (q := 19) (by decide +kernel) rfl rfl rfl ?_
    refine Wk.getR (r := 1) (q := 22) f_Sw_12 (by decide +kernel) O_0 (by decide) rfl rfl rfl ?_
    refine Wk.iload_n (k := 1) (q := 23) (by decide +kernel) rfl rfl rfl ?_
    refine Wk.cV (q := 26) l_Sw_165 m_Sear_placesFor (by decide +kernel) (fun _ h => h) O_122 rfl (Nat.le_of_ble_eq_true rfl) (Nat.le_of_ble_eq_true rfl) rfl (c_Sear_placesFor hc8.1 hc8.2 hC) rfl (fun v9 I9 L9 hP9 => ?_)
    obtain ⟨⟨u, rfl, hu⟩, e9⟩ := hP9
    rw [e9]
    refine Wk.cS (q := 29) l_Sw_168 m_Sw_firstOf (by decide +kernel) (fun _ h => h) (Nat.le_of_ble_eq_true rfl) (Nat.le_of_ble_eq_true rfl) rfl (c_Sw_firstOf) rfl (fun v8 I8 L8 hP8 => ?_)
    obtain ⟨⟨s, rfl, hs⟩, e2, e3⟩ := hP8
    rw [e2, e3]
    refine Wk.istore_n (k := 2) (q := 30) (by decide +kernel) rfl (by decide) rfl (fun _ h => h) rfl ?_
    refine Wk.iload_n (k := 2) (q := 31) (by decide +kernel) rfl rfl rfl ?_
    refine Wk.iconst (n := (-1)) (q := 32) (by decide +kernel) rfl ?_
    refine Wk.icmp_ne (off := (6)) (t := 38) (q := 35) (by decide +kernel) (by decide) rfl (by first | omega | exact bi_rng _) (by first | omega | exact bi_rng _) (fun hc32 => ?_) (fun hc32 => ?_)
    · refine Wk.aload_n (k := 0) (q := 39) (by decide +kernel) rfl rfl rfl ?_
      refine Wk.getR (r := 1) (q := 42) f_Sw_12 (by decide +kernel) O_0 (by decide) rfl rfl rfl ?_
      refine Wk.getI (z := 4) (q := 45) f_Sw_60 (by decide +kernel) O_1 (by decide) rfl rfl rfl ?_
      refine Wk.iconst (n := 5) (q := 46) (by decide +kernel) rfl ?_
      refine Wk.icmp_lt (off := (6)) (t := 52) (q := 49) (by decide +kernel) (by decide) rfl (by first | omega | exact bi_rng _) (by first | omega | exact bi_rng _) (fun hc46 => ?_) (fun hc46 => ?_)
      · refine Wk.aload_n (k := 0) (q := 53) (by decide +kernel) rfl rfl rfl ?_
        refine Wk.getR (r := 8) (q := 56) f_Sw_19 (by decide +kernel) O_0 (by decide) rfl rfl rfl ?_
        refine Wk.aload_n (k := 0) (q := 57) (by decide +kernel) rfl rfl rfl ?_
        refine Wk.getR (r := 1) (q := 60) f_Sw_12 (by decide +kernel) O_0 (by decide) rfl rfl rfl ?_
        refine Wk.cV (q := 63) l_Sw_197 m_Hist_remember (by decide +kernel) (fun _ h => h) O_8 rfl (Nat.le_of_ble_eq_true rfl) (Nat.le_of_ble_eq_true rfl) rfl (c_Hist_remember HH.1 HH.2.1) rfl (fun v0 Ia La hP => ?_)
        obtain ⟨rfl, ⟨J, hJ, eA⟩, eL⟩ := hP
        have hRem : RemC I Ia := by rw [eA]; exact RemC.of hJ
        have e1 : Ia 1 = I 1 := hRem.lo (by decide)
        refine Wk.aload_n (k := 0) (q := 64) (by decide +kernel) rfl rfl rfl ?_
        refine Wk.getR (r := 1) (q := 67) f_Sw_12 (by decide +kernel) O_0 (by decide) rfl rfl rfl ?_
        refine Wk.iload_n (k := 1) (q := 68) (by decide +kernel) rfl rfl rfl ?_
        refine Wk.iload_n (k := 2) (q := 69) (by decide +kernel) rfl rfl rfl ?_
        refine Wk.cVv (q := 72) l_Sw_218 m_Harb_bringToAnchor (by decide +kernel) (fun _ h => h) O_1 rfl (Nat.le_of_ble_eq_true rfl) (Nat.le_of_ble_eq_true rfl) rfl (c_Harb_bringToAnchor hc8.1 (by rw [e1]; exact hc8.2) (by rw [e1]; omega) (by rw [e1]; omega) (by omega)) rfl ?_
        refine Wk.aload_n (k := 0) (q := 73) (by decide +kernel) rfl rfl rfl ?_
        refine Wk.iload_n (k := 2) (q := 74) (by decide +kernel) rfl rfl rfl ?_
        refine Wk.cVi (q := 77) l_Sw_171 m_Sw_cellOfSpot (by decide +kernel) (fun _ h => h) O_0 rfl (Nat.le_of_ble_eq_true rfl) (Nat.le_of_ble_eq_true rfl) rfl (c_Sw_cellOfSpot (by omega)) rfl ?_
        exact Wk.riP (by decide +kernel) rfl (⟨_, rfl, Or.inr ⟨hc8, u, s, hu, hs, Or.inr (Or.inr ⟨hc32, hc46, (by rw [if_neg hc32, toAnch_1 _ _ _ _ (by decide) (by decide), e1]), Ia, hRem, rfl⟩)⟩⟩)
      · refine Wk.ldc (z := (-1000000004)) (q := 51) k_Sw_208 (by decide +kernel) (by decide +kernel) rfl ?_
        exact Wk.riP (by decide +kernel) rfl (⟨_, rfl, Or.inr ⟨hc8, u, s, hu, hs, Or.inr (Or.inl ⟨hc32, (by omega), rfl, rfl⟩)⟩⟩)
    · refine Wk.ldc (z := (-1000000003)) (q := 37) k_Sw_217 (by decide +kernel) (by decide +kernel) rfl ?_
      exact Wk.riP (by decide +kernel) rfl (⟨_, rfl, Or.inr ⟨hc8, u, s, hu, hs, Or.inl ⟨hc32, rfl, rfl⟩⟩⟩)
  · refine Wk.ldc (z := (-1000000001)) (q := 13) k_Sw_107 (by decide +kernel) (by decide +kernel) rfl ?_
    exact Wk.riP (by decide +kernel) rfl (⟨_, rfl, Or.inl ⟨hc8, rfl, rfl⟩⟩)
theorem c_Mod_fit {k : Int} (hk : -2147483648 ≤ k ∧ k ≤ 2147483647) (hM : MW I) (hK0 : 0 ≤ I 148 1) (hK1 : I 148 1 ≤ 16) : Wk xs x_Mod_fit (d + 7) 0 0 0 [some (vr 148), some (vi k), none] [] X2 I L (p2 fun u I' L' => (∃ z, u = some (vi z) ∧ ((¬ (0 ≤ k ∧ k < I 149 5) ∧ z = -1000000001 ∧ I' = I) ∨ ((0 ≤ k ∧ k < I 149 5) ∧ ∃ s : Int, Fst (fun c => mFr I (75 + 4 * k) 0 c) (I 149 0 * I 149 1) s ∧ ((s = -1 ∧ z = -1000000003 ∧ I' = I) ∨ (¬ s = -1 ∧ I 149 4 = 5 ∧ z = -1000000004 ∧ I' = I) ∨ (¬ s = -1 ∧ ¬ I 149 4 = 5 ∧ z = s ∧ I' = unw (moo (remM I) k s) k))))) ∧ L' = L) := by
  obtain ⟨hI, hS, hQ⟩ := id hM
  obtain ⟨hW, hH, hT, hF, hA, hK, hD⟩ := id hI
  have h49 := WH49 (W := I 149 0) (H := I 149 1) (by omega) (by omega)
  have hRl : ∀ b, b < 90 → remM I 149 b = I 149 b := fun b hb => by
    show (if 149 = 149 then remW (I 148 1) (I 149) b else _) = _
    rw [if_pos rfl]
    exact remW_lo (by omega) (Or.inl hb)
  refine Wk.aload_n (k := 0) (q := 1) (by decide +kernel) rfl rfl rfl ?_
  refine Wk.iload_n (k := 1) (q := 2) (by decide +kernel) rfl rfl rfl ?_
  refine Wk.cVi (q := 5) l_Mod_170 m_Mod_isWaiting (by decide +kernel) (fun _ h => h) O_148 rfl (Nat.le_of_ble_eq_true rfl) (Nat.le_of_ble_eq_true rfl) rfl (c_Mod_isWaiting hk hI) rfl ?_
  refine Wk.ifB_ne (off := (6)) (t := 11) (q := 8) (by decide +kernel) (by decide) rfl (fun hc5 => ?_) (fun hc5 => ?_)
  · refine Wk.aload_n (k := 0) (q := 12) (by decide +kernel) rfl rfl rfl ?_
    refine Wk.iload_n (k := 1) (q := 13) (by decide +kernel) rfl rfl rfl ?_
    refine Wk.cV (q := 16) l_Mod_176 m_Mod_firstPlace (by decide +kernel) (fun _ h => h) O_148 rfl (Nat.le_of_ble_eq_true rfl) (Nat.le_of_ble_eq_true rfl) rfl (c_Mod_firstPlace hc5.1 hc5.2 hM) rfl (fun v8 I8 L8 hP8 => ?_)
    obtain ⟨⟨s, rfl, hs⟩, e2, e3⟩ := hP8
    rw [e2, e3]
    have hsr : -1 ≤ s ∧ s ≤ 49 := by
      rcases hs with ⟨q, -⟩ | ⟨q, -⟩ <;> omega
    refine Wk.istore_n (k := 2) (q := 17) (by decide +kernel) rfl (by decide) rfl (fun _ h => h) rfl ?_
    refine Wk.iload_n (k := 2) (q := 18) (by decide +kernel) rfl rfl rfl ?_
    refine Wk.iconst (n := (-1)) (q := 19) (by decide +kernel) rfl ?_
    refine Wk.icmp_ne (off := (6)) (t := 25) (q := 22) (by decide +kernel) (by decide) rfl (by first | omega | exact bi_rng _) (by first | omega | exact bi_rng _) (fun hc19 => ?_) (fun hc19 => ?_)
    · refine Wk.aload_n (k := 0) (q := 26) (by decide +kernel) rfl rfl rfl ?_
      refine Wk.getR (r := 149) (q := 29) f_Mod_7 (by decide +kernel) O_148 (by decide) rfl rfl rfl ?_
      refine Wk.iconst (n := 4) (q := 30) (by decide +kernel) rfl ?_
      refine Wk.iaload (q := 31) (by decide +kernel) A_149 (by first | omega | exact bi_rng _) (by first | omega | exact bi_rng _) rfl ?_
      refine Wk.iconst (n := 5) (q := 32) (by decide +kernel) rfl ?_
      refine Wk.icmp_ne (off := (6)) (t := 38) (q := 35) (by decide +kernel) (by decide) rfl (by first | omega | exact bi_rng _) (by first | omega | exact bi_rng _) (fun hc32 => ?_) (fun hc32 => ?_)
      · refine Wk.aload_n (k := 0) (q := 39) (by decide +kernel) rfl rfl rfl ?_
        refine Wk.iload_n (k := 1) (q := 40) (by decide +kernel) rfl rfl rfl ?_
        refine Wk.iload_n (k := 2) (q := 41) (by decide +kernel) rfl rfl rfl ?_
        refine Wk.cV (q := 44) l_Mod_203 m_Mod_come (by decide +kernel) (fun _ h => h) O_148 rfl (Nat.le_of_ble_eq_true rfl) (Nat.le_of_ble_eq_true rfl) rfl (c_Mod_come hc5.1 hc5.2 (by omega) hM hK0 hK1) rfl (fun v0 Ia La hP => ?_)
        obtain ⟨rfl, eA, eL⟩ := hP
        refine Wk.pop (q := 45) (by decide +kernel) rfl rfl ?_
        refine Wk.iload_n (k := 2) (q := 46) (by decide +kernel) rfl rfl rfl ?_
        exact Wk.riP (by decide +kernel) rfl (⟨⟨_, rfl, Or.inr ⟨hc5, s, hs, Or.inr (Or.inr ⟨hc19, hc32, rfl, eA⟩)⟩⟩, eL⟩)
      · refine Wk.ldc (z := (-1000000004)) (q := 37) k_Mod_194 (by decide +kernel) (by decide +kernel) rfl ?_
        exact Wk.riP (by decide +kernel) rfl (⟨⟨_, rfl, Or.inr ⟨hc5, s, hs, Or.inr (Or.inl ⟨hc19, hc32, rfl, rfl⟩)⟩⟩, rfl⟩)
    · refine Wk.ldc (z := (-1000000003)) (q := 24) k_Mod_202 (by decide +kernel) (by decide +kernel) rfl ?_
      exact Wk.riP (by decide +kernel) rfl (⟨⟨_, rfl, Or.inr ⟨hc5, s, hs, Or.inl ⟨hc19, rfl, rfl⟩⟩⟩, rfl⟩)
  · refine Wk.ldc (z := (-1000000001)) (q := 10) k_Mod_160 (by decide +kernel) (by decide +kernel) rfl ?_
    exact Wk.riP (by decide +kernel) rfl (⟨⟨_, rfl, Or.inl ⟨hc5, rfl, rfl⟩⟩, rfl⟩)
theorem c_Sw_keep {i : Int} (hir : -2147483648 ≤ i ∧ i ≤ 2147483647) : Wk xs x_Sw_keep (d + 4) 0 0 0 [some (vr 0), some (vi i)] [] X2 I L (p2 fun u I' _ => ∃ z, u = some (vi z) ∧ (((i < 0 ∨ 1 < i) ∧ z = -1000000001 ∧ I' = I) ∨ (¬ (i < 0 ∨ 1 < i) ∧ z = 1 ∧ ∃ I1, HC I 1 (133 + 8 * i.toNat) 6 I1 ∧ I' = iup (iup (iup I1 (132 + 8 * i.toNat) 1 (I 0 5)) (132 + 8 * i.toNat) 2 1) 8 2 0))) := by
  refine Wk.iload_n (k := 1) (q := 1) (by decide +kernel) rfl rfl rfl ?_
  refine Wk.iconst (n := 0) (q := 2) (by decide +kernel) rfl ?_
  refine Wk.iconst (n := 1) (q := 3) (by decide +kernel) rfl ?_
  refine Wk.cSi (q := 6) l_Sw_193 m_Sw_isOut (by decide +kernel) (fun _ h => h) (Nat.le_of_ble_eq_true rfl) (Nat.le_of_ble_eq_true rfl) rfl (c_Sw_isOut hir (by omega) (by omega)) rfl ?_
  refine Wk.ifB_eq (off := (6)) (t := 12) (q := 9) (by decide +kernel) (by decide) rfl (fun hc6 => ?_) (fun hc6 => ?_)
  · have hi : i.toNat < 2 := by omega
    refine Wk.aload_n (k := 0) (q := 13) (by decide +kernel) rfl rfl rfl ?_
    refine Wk.getR (r := 131) (q := 16) f_Sw_39 (by decide +kernel) O_0 (by decide) rfl rfl rfl ?_
    refine Wk.iload_n (k := 1) (q := 17) (by decide +kernel) rfl rfl rfl ?_
    refine Wk.aaload (r := 132 + 8 * i.toNat) (q := 18) (by decide +kernel) A_131 (by decide) (by first | omega | exact bi_rng _) (by first | omega | exact bi_rng _) (R131 _ hi) rfl ?_
    refine Wk.aload_n (k := 0) (q := 19) (by decide +kernel) rfl rfl rfl ?_
    refine Wk.getR (r := 1) (q := 22) f_Sw_12 (by decide +kernel) O_0 (by decide) rfl rfl rfl ?_
    refine Wk.aload_n (k := 0) (q := 23) (by decide +kernel) rfl rfl rfl ?_
    refine Wk.getI (z := 5) (q := 26) f_Sw_44 (by decide +kernel) O_0 (by decide) rfl rfl rfl ?_
    refine Wk.cV (q := 29) l_Sw_247 m_Imag_take (by decide +kernel) (fun _ h => h) (IO_i _ hi).1 rfl (Nat.le_of_ble_eq_true rfl) (Nat.le_of_ble_eq_true rfl) rfl (c_Imag_take hi) rfl (fun v1 Ib Lb hP2 => ?_)
    obtain ⟨rfl, ⟨I1, hHC, eB⟩, eL2⟩ := hP2
    rw [eB]
    refine Wk.aload_n (k := 0) (q := 30) (by decide +kernel) rfl rfl rfl ?_
    refine Wk.getR (r := 8) (q := 33) f_Sw_19 (by decide +kernel) O_0 (by decide) rfl rfl rfl ?_
    refine Wk.cVv (q := 36) l_Sw_251 m_Hist_forget (by decide +kernel) (fun _ h => h) O_8 rfl (Nat.le_of_ble_eq_true rfl) (Nat.le_of_ble_eq_true rfl) rfl (c_Hist_forget) rfl ?_
    refine Wk.iconst (n := 1) (q := 37) (by decide +kernel) rfl ?_
    exact Wk.riP (by decide +kernel) rfl (⟨_, rfl, Or.inr ⟨hc6, rfl, I1, hHC, rfl⟩⟩)
  · refine Wk.ldc (z := (-1000000001)) (q := 11) k_Sw_107 (by decide +kernel) (by decide +kernel) rfl ?_
    exact Wk.riP (by decide +kernel) rfl (⟨_, rfl, Or.inl ⟨hc6, rfl, rfl⟩⟩)
theorem c_Sw_goBack {i : Int} (hir : -2147483648 ≤ i ∧ i ≤ 2147483647) (hT : ∀ i : Nat, i < 2 → 0 ≤ I (132 + 8 * i) 2 ∧ I (132 + 8 * i) 2 ≤ 1) : Wk xs x_Sw_goBack (d + 4) 0 0 0 [some (vr 0), some (vi i)] [] X2 I L (p2 fun u I' _ => ∃ z, u = some (vi z) ∧ (((i < 0 ∨ 1 < i) ∧ z = -1000000001 ∧ I' = I) ∨ (¬ (i < 0 ∨ 1 < i) ∧ I (132 + 8 * i.toNat) 2 = 0 ∧ z = -1000000003 ∧ I' = I) ∨ (¬ (i < 0 ∨ 1 < i) ∧ ¬ I (132 + 8 * i.toNat) 2 = 0 ∧ z = 1 ∧ ∃ I1, HC I (133 + 8 * i.toNat) 1 6 I1 ∧ I' = iup (iup I1 0 5 (I1 (132 + 8 * i.toNat) 1)) 8 2 0))) := by
  refine Wk.iload_n (k := 1) (q := 1) (by decide +kernel) rfl rfl rfl ?_
  refine Wk.iconst (n := 0) (q := 2) (by decide +kernel) rfl ?_
  refine Wk.iconst (n := 1) (q := 3) (by decide +kernel) rfl ?_
  refine Wk.cSi (q := 6) l_Sw_193 m_Sw_isOut (by decide +kernel) (fun _ h => h) (Nat.le_of_ble_eq_true rfl) (Nat.le_of_ble_eq_true rfl) rfl (c_Sw_isOut hir (by omega) (by omega)) rfl ?_
  refine Wk.ifB_eq (off := (6)) (t := 12) (q := 9) (by decide +kernel) (by decide) rfl (fun hc6 => ?_) (fun hc6 => ?_)
  · have hi : i.toNat < 2 := by omega
    have hTi := hT _ hi
    refine Wk.aload_n (k := 0) (q := 13) (by decide +kernel) rfl rfl rfl ?_
    refine Wk.getR (r := 131) (q := 16) f_Sw_39 (by decide +kernel) O_0 (by decide) rfl rfl rfl ?_
    refine Wk.iload_n (k := 1) (q := 17) (by decide +kernel) rfl rfl rfl ?_
    refine Wk.aaload (r := 132 + 8 * i.toNat) (q := 18) (by decide +kernel) A_131 (by decide) (by first | omega | exact bi_rng _) (by first | omega | exact bi_rng _) (R131 _ hi) rfl ?_
    refine Wk.getI (z := 2) (q := 21) f_Sw_254 (by decide +kernel) (IO_i _ hi).1 (by decide) rfl rfl rfl ?_
    refine Wk.if_ne (off := (6)) (t := 27) (q := 24) (by decide +kernel) (by decide) rfl (by first | omega | exact bi_rng _) (fun hc21 => ?_) (fun hc21 => ?_)
    · refine Wk.aload_n (k := 0) (q := 28) (by decide +kernel) rfl rfl rfl ?_
      refine Wk.getR (r := 1) (q := 31) f_Sw_12 (by decide +kernel) O_0 (by decide) rfl rfl rfl ?_
      refine Wk.aload_n (k := 0) (q := 32) (by decide +kernel) rfl rfl rfl ?_
      refine Wk.getR (r := 131) (q := 35) f_Sw_39 (by decide +kernel) O_0 (by decide) rfl rfl rfl ?_
      refine Wk.iload_n (k := 1) (q := 36) (by decide +kernel) rfl rfl rfl ?_
      refine Wk.aaload (r := 132 + 8 * i.toNat) (q := 37) (by decide +kernel) A_131 (by decide) (by first | omega | exact bi_rng _) (by first | omega | exact bi_rng _) (R131 _ hi) rfl ?_
      refine Wk.getR (r := (133 + 8 * i.toNat)) (q := 40) f_Sw_258 (by decide +kernel) (IO_i _ hi).1 (by decide) rfl ((IO_i _ hi).2) rfl ?_
      refine Wk.cV (q := 43) l_Sw_261 m_Harb_copyFrom (by decide +kernel) (fun _ h => h) O_1 rfl (Nat.le_of_ble_eq_true rfl) (Nat.le_of_ble_eq_true rfl) rfl (c_Harb_copyFrom HOK_1 (HOK_i _ hi) (by omega)) rfl (fun v1 I1 L1 hP2 => ?_)
      obtain ⟨rfl, hHC, eL2⟩ := hP2
      refine Wk.aload_n (k := 0) (q := 44) (by decide +kernel) rfl rfl rfl ?_
      refine Wk.aload_n (k := 0) (q := 45) (by decide +kernel) rfl rfl rfl ?_
      refine Wk.getR (r := 131) (q := 48) f_Sw_39 (by decide +kernel) O_0 (by decide) rfl rfl rfl ?_
      refine Wk.iload_n (k := 1) (q := 49) (by decide +kernel) rfl rfl rfl ?_
      refine Wk.aaload (r := 132 + 8 * i.toNat) (q := 50) (by decide +kernel) A_131 (by decide) (by first | omega | exact bi_rng _) (by first | omega | exact bi_rng _) (R131 _ hi) rfl ?_
      refine Wk.getI (z := 1) (q := 53) f_Sw_264 (by decide +kernel) (IO_i _ hi).1 (by decide) rfl rfl rfl ?_
      refine Wk.putI (z := 5) (q := 56) f_Sw_44 fw_Sw_5 (by decide +kernel) O_0 (by decide) rfl rfl ⟨rfl, rfl⟩ rfl ?_
      refine Wk.aload_n (k := 0) (q := 57) (by decide +kernel) rfl rfl rfl ?_
      refine Wk.getR (r := 8) (q := 60) f_Sw_19 (by decide +kernel) O_0 (by decide) rfl rfl rfl ?_
      refine Wk.cVv (q := 63) l_Sw_251 m_Hist_forget (by decide +kernel) (fun _ h => h) O_8 rfl (Nat.le_of_ble_eq_true rfl) (Nat.le_of_ble_eq_true rfl) rfl (c_Hist_forget) rfl ?_
      refine Wk.iconst (n := 1) (q := 64) (by decide +kernel) rfl ?_
      exact Wk.riP (by decide +kernel) rfl (⟨_, rfl, Or.inr (Or.inr ⟨hc6, (by omega), rfl, I1, hHC, rfl⟩)⟩)
    · refine Wk.ldc (z := (-1000000003)) (q := 26) k_Sw_217 (by decide +kernel) (by decide +kernel) rfl ?_
      exact Wk.riP (by decide +kernel) rfl (⟨_, rfl, Or.inr (Or.inl ⟨hc6, (by omega), rfl, rfl⟩)⟩)
  · refine Wk.ldc (z := (-1000000001)) (q := 11) k_Sw_107 (by decide +kernel) (by decide +kernel) rfl ?_
    exact Wk.riP (by decide +kernel) rfl (⟨_, rfl, Or.inl ⟨hc6, rfl, rfl⟩⟩)
theorem c_Mod_keep {i : Int} (hir : -2147483648 ≤ i ∧ i ≤ 2147483647) : Wk xs x_Mod_keep (d + 4) 0 0 0 [some (vr 148), some (vi i)] [] X2 I L (p2 fun u I' L' => (∃ z, u = some (vi z) ∧ ((¬ (0 ≤ i ∧ i ≤ 1) ∧ z = -1000000001 ∧ I' = I) ∨ ((0 ≤ i ∧ i ≤ 1) ∧ z = 1 ∧ I' = iup (iup (iup (cpR I 0 (1530 + 90 * i) 90) 150 i (I 148 3)) 148 2 (orb (I 148 2) i)) 148 1 0))) ∧ L' = L) := by
  refine Wk.iload_n (k := 1) (q := 1) (by decide +kernel) rfl rfl rfl ?_
  refine Wk.iconst (n := 0) (q := 2) (by decide +kernel) rfl ?_
  refine Wk.iconst (n := 1) (q := 3) (by decide +kernel) rfl ?_
  refine Wk.cSi (q := 6) l_Mod_36 m_Mod_in (by decide +kernel) (fun _ h => h) (Nat.le_of_ble_eq_true rfl) (Nat.le_of_ble_eq_true rfl) rfl (c_Mod_in hir (by omega) (by omega)) rfl ?_
  refine Wk.ifB_ne (off := (6)) (t := 12) (q := 9) (by decide +kernel) (by decide) rfl (fun hc6 => ?_) (fun hc6 => ?_)
  · refine Wk.aload_n (k := 0) (q := 13) (by decide +kernel) rfl rfl rfl ?_
    refine Wk.iconst (n := 0) (q := 14) (by decide +kernel) rfl ?_
    refine Wk.sipush (n := 1530) (q := 17) (by decide +kernel) (by decide +kernel) rfl ?_
    refine Wk.bipush (n := 90) (q := 19) (by decide +kernel) (by decide +kernel) rfl ?_
    refine Wk.iload_n (k := 1) (q := 20) (by decide +kernel) rfl rfl rfl ?_
    refine Wk.imul (q := 21) (by decide +kernel) rfl ?_
    refine Wk.iadd (q := 22) (by decide +kernel) rfl ?_
    refine Wk.cVv (q := 25) l_Mod_185 m_Mod_copyRow (by decide +kernel) (fun _ h => h) O_148 rfl (Nat.le_of_ble_eq_true rfl) (Nat.le_of_ble_eq_true rfl) rfl (c_Mod_copyRow (by omega) (by omega) (by omega)) rfl ?_
    refine Wk.aload_n (k := 0) (q := 26) (by decide +kernel) rfl rfl rfl ?_
    refine Wk.getR (r := 150) (q := 29) f_Mod_13 (by decide +kernel) O_148 (by decide) rfl rfl rfl ?_
    refine Wk.iload_n (k := 1) (q := 30) (by decide +kernel) rfl rfl rfl ?_
    refine Wk.aload_n (k := 0) (q := 31) (by decide +kernel) rfl rfl rfl ?_
    refine Wk.getI (z := 3) (q := 34) f_Mod_156 (by decide +kernel) O_148 (by decide) rfl rfl rfl ?_
    rw [cpR_o (by decide)]
    refine Wk.iastore (q := 35) (by decide +kernel) A_150 (by first | omega | exact bi_rng _) (by first | omega | exact bi_rng _) rfl ?_
    refine Wk.aload_n (k := 0) (q := 36) (by decide +kernel) rfl rfl rfl ?_
    refine Wk.dup (q := 37) (by decide +kernel) rfl rfl ?_
    refine Wk.getI (z := 2) (q := 40) f_Mod_216 (by decide +kernel) O_148 (by decide) rfl rfl rfl ?_
    rw [iup_ne (by omega), cpR_o (by decide)]
    refine Wk.iconst (n := 1) (q := 41) (by decide +kernel) rfl ?_
    refine Wk.iload_n (k := 1) (q := 42) (by decide +kernel) rfl rfl rfl ?_
    refine Wk.ishl (q := 43) (by decide +kernel) rfl ?_
    refine Wk.ior (q := 44) (by decide +kernel) rfl ?_
    refine Wk.putI (z := 2) (q := 47) f_Mod_216 fw_Mod_2 (by decide +kernel) O_148 (by decide) rfl rfl ⟨rfl, rfl⟩ rfl ?_
    refine Wk.aload_n (k := 0) (q := 48) (by decide +kernel) rfl rfl rfl ?_
    refine Wk.iconst (n := 0) (q := 49) (by decide +kernel) rfl ?_
    refine Wk.putI (z := 1) (q := 52) f_Mod_153 fw_Mod_1 (by decide +kernel) O_148 (by decide) rfl rfl ⟨rfl, rfl⟩ rfl ?_
    refine Wk.iconst (n := 1) (q := 53) (by decide +kernel) rfl ?_
    exact Wk.riP (by decide +kernel) rfl (⟨⟨_, rfl, Or.inr ⟨hc6, rfl, rfl⟩⟩, rfl⟩)
  · refine Wk.ldc (z := (-1000000001)) (q := 11) k_Mod_160 (by decide +kernel) (by decide +kernel) rfl ?_
    exact Wk.riP (by decide +kernel) rfl (⟨⟨_, rfl, Or.inl ⟨hc6, rfl, rfl⟩⟩, rfl⟩)
theorem c_Mod_goBack {i : Int} (hir : -2147483648 ≤ i ∧ i ≤ 2147483647) (hK : 0 ≤ I 148 2 ∧ I 148 2 ≤ 3) : Wk xs x_Mod_goBack (d + 4) 0 0 0 [some (vr 148), some (vi i)] [] X2 I L (p2 fun u I' L' => (∃ z, u = some (vi z) ∧ ((¬ (0 ≤ i ∧ i ≤ 1) ∧ z = -1000000001 ∧ I' = I) ∨ ((0 ≤ i ∧ i ≤ 1) ∧ ¬ bt (I 148 2) i = true ∧ z = -1000000003 ∧ I' = I) ∨ ((0 ≤ i ∧ i ≤ 1) ∧ bt (I 148 2) i = true ∧ z = 1 ∧ I' = iup (iup (cpR I (1530 + 90 * i) 0 90) 148 3 (I 150 i)) 148 1 0))) ∧ L' = L) := by
  refine Wk.iload_n (k := 1) (q := 1) (by decide +kernel) rfl rfl rfl ?_
  refine Wk.iconst (n := 0) (q := 2) (by decide +kernel) rfl ?_
  refine Wk.iconst (n := 1) (q := 3) (by decide +kernel) rfl ?_
  refine Wk.cSi (q := 6) l_Mod_36 m_Mod_in (by decide +kernel) (fun _ h => h) (Nat.le_of_ble_eq_true rfl) (Nat.le_of_ble_eq_true rfl) rfl (c_Mod_in hir (by omega) (by omega)) rfl ?_
  refine Wk.ifB_ne (off := (6)) (t := 12) (q := 9) (by decide +kernel) (by decide) rfl (fun hc6 => ?_) (fun hc6 => ?_)
  · refine Wk.aload_n (k := 0) (q := 13) (by decide +kernel) rfl rfl rfl ?_
    refine Wk.getI (z := 2) (q := 16) f_Mod_216 (by decide +kernel) O_148 (by decide) rfl rfl rfl ?_
    refine Wk.iload_n (k := 1) (q := 17) (by decide +kernel) rfl rfl rfl ?_
    refine Wk.ishr (q := 18) (by decide +kernel) rfl ?_
    refine Wk.iconst (n := 1) (q := 19) (by decide +kernel) rfl ?_
    refine Wk.iand (q := 20) (by decide +kernel) rfl ?_
    rw [bit_int (by omega) (by omega) (by omega) (by omega)]
    refine Wk.if_ne (off := (6)) (t := 26) (q := 23) (by decide +kernel) (by decide) rfl (by first | omega | exact bi_rng _) (fun hc20 => ?_) (fun hc20 => ?_)
    · refine Wk.aload_n (k := 0) (q := 27) (by decide +kernel) rfl rfl rfl ?_
      refine Wk.sipush (n := 1530) (q := 30) (by decide +kernel) (by decide +kernel) rfl ?_
      refine Wk.bipush (n := 90) (q := 32) (by decide +kernel) (by decide +kernel) rfl ?_
      refine Wk.iload_n (k := 1) (q := 33) (by decide +kernel) rfl rfl rfl ?_
      refine Wk.imul (q := 34) (by decide +kernel) rfl ?_
      refine Wk.iadd (q := 35) (by decide +kernel) rfl ?_
      refine Wk.iconst (n := 0) (q := 36) (by decide +kernel) rfl ?_
      refine Wk.cVv (q := 39) l_Mod_185 m_Mod_copyRow (by decide +kernel) (fun _ h => h) O_148 rfl (Nat.le_of_ble_eq_true rfl) (Nat.le_of_ble_eq_true rfl) rfl (c_Mod_copyRow (by omega) (by omega) (by omega)) rfl ?_
      refine Wk.aload_n (k := 0) (q := 40) (by decide +kernel) rfl rfl rfl ?_
      refine Wk.aload_n (k := 0) (q := 41) (by decide +kernel) rfl rfl rfl ?_
      refine Wk.getR (r := 150) (q := 44) f_Mod_13 (by decide +kernel) O_148 (by decide) rfl rfl rfl ?_
      refine Wk.iload_n (k := 1) (q := 45) (by decide +kernel) rfl rfl rfl ?_
      refine Wk.iaload (q := 46) (by decide +kernel) A_150 (by first | omega | exact bi_rng _) (by first | omega | exact bi_rng _) rfl ?_
      rw [cpR_o (by decide)]
      refine Wk.putI (z := 3) (q := 49) f_Mod_156 fw_Mod_3 (by decide +kernel) O_148 (by decide) rfl rfl ⟨rfl, rfl⟩ rfl ?_
      refine Wk.aload_n (k := 0) (q := 50) (by decide +kernel) rfl rfl rfl ?_
      refine Wk.iconst (n := 0) (q := 51) (by decide +kernel) rfl ?_
      refine Wk.putI (z := 1) (q := 54) f_Mod_153 fw_Mod_1 (by decide +kernel) O_148 (by decide) rfl rfl ⟨rfl, rfl⟩ rfl ?_
      refine Wk.iconst (n := 1) (q := 55) (by decide +kernel) rfl ?_
      exact Wk.riP (by decide +kernel) rfl (⟨⟨_, rfl, Or.inr (Or.inr ⟨hc6, (Classical.not_not.mp (fun z => hc20 (bi_f z))), rfl, rfl⟩)⟩, rfl⟩)
    · refine Wk.ldc (z := (-1000000003)) (q := 25) k_Mod_202 (by decide +kernel) (by decide +kernel) rfl ?_
      exact Wk.riP (by decide +kernel) rfl (⟨⟨_, rfl, Or.inr (Or.inl ⟨hc6, (fun z => by rw [bi_t z] at hc20; omega), rfl, rfl⟩)⟩, rfl⟩)
  · refine Wk.ldc (z := (-1000000001)) (q := 11) k_Mod_160 (by decide +kernel) (by decide +kernel) rfl ?_
    exact Wk.riP (by decide +kernel) rfl (⟨⟨_, rfl, Or.inl ⟨hc6, rfl, rfl⟩⟩, rfl⟩)
end DEG
