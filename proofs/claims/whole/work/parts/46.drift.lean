/-! DRIFT, the reference's -/
theorem MW_dep {J I2 : IM} (h : MW J) (h1 : ∀ b, b < 90 → ¬ (6 ≤ b ∧ b < 55) → I2 149 b = J 149 b) (h2 : ∀ k, 0 ≤ k → k < 49 → 0 ≤ I2 149 (6 + k) ∧ I2 149 (6 + k) ≤ 9) : MW I2 := by
  obtain ⟨⟨a0, a1, a2, a3, a4, a5, a6⟩, s, q⟩ := h
  have e0 := h1 0 (by decide) (by decide)
  have e1 := h1 1 (by decide) (by decide)
  have e2 := h1 2 (by decide) (by decide)
  have e3 := h1 3 (by decide) (by decide)
  have e4 := h1 4 (by decide) (by decide)
  have e5 := h1 5 (by decide) (by decide)
  refine ⟨⟨by rw [e0]; exact a0, by rw [e1]; exact a1, by rw [e2]; exact a2, by rw [e3]; exact a3, by rw [e4]; exact a4, by rw [e5]; exact a5, h2⟩, fun a g0 g1 => ?_, fun k g0 g1 => ?_⟩
  · rw [e4] at g1
    have := s a g0 g1
    unfold MP mC at *
    rw [h1 (55 + 4 * a) (by omega) (by omega), h1 (55 + 4 * a + 1) (by omega) (by omega), h1 (55 + 4 * a + 2) (by omega) (by omega), h1 (55 + 4 * a + 3) (by omega) (by omega), e0, e1]
    exact this
  · rw [e5] at g1
    have := q k g0 g1
    unfold MP at *
    rw [h1 (75 + 4 * k) (by omega) (by omega), h1 (75 + 4 * k + 1) (by omega) (by omega), h1 (75 + 4 * k + 2) (by omega) (by omega)]
    exact this
theorem remM_lo {I : IM} (hK : 0 ≤ I 148 1 ∧ I 148 1 ≤ 16) {b : Int} (hb : b < 90 ∨ 1530 ≤ b) : remM I 149 b = I 149 b := by
  show (if 149 = 149 then remW (I 148 1) (I 149) b else _) = _
  rw [if_pos rfl]
  exact remW_lo hK hb
theorem remM_k (I : IM) : remM I 148 1 = min (I 148 1 + 1) 16 := by
  show (if 148 = 149 then _ else if 148 = 148 ∧ (1 : Int) = 1 then min (I 148 1 + 1) 16 else _) = _
  rw [if_neg (by decide), if_pos ⟨rfl, rfl⟩]
theorem remM_8 {I : IM} {b : Int} (hb : ¬ b = 1) : remM I 148 b = I 148 b := by
  show (if 148 = 149 then _ else if 148 = 148 ∧ b = 1 then _ else I 148 b) = _
  rw [if_neg (by decide), if_neg (fun z => hb z.2)]
theorem remM_o {I : IM} {c : Nat} (h8 : ¬ c = 148) (h9 : ¬ c = 149) : remM I c = I c := by
  funext b
  show (if c = 149 then _ else if c = 148 ∧ b = 1 then _ else I c b) = _
  rw [if_neg h9, if_neg (fun z => h8 z.1)]
def MRdy (I : IM) : Prop := MW I ∧ (0 ≤ I 148 1 ∧ I 148 1 ≤ 16) ∧ (0 ≤ I 148 3 ∧ I 148 3 ≤ 2147483647)
theorem MRdy.cell {J : IM} (h : MRdy J) (s : Int) : 0 ≤ s / 65536 % (J 149 0 * J 149 1) ∧ s / 65536 % (J 149 0 * J 149 1) < J 149 0 * J 149 1 ∧ 0 < J 149 0 * J 149 1 ∧ J 149 0 * J 149 1 ≤ 49 := by
  obtain ⟨⟨⟨hW, hH, -⟩, -⟩, -⟩ := h
  have h49 := WH49 (W := J 149 0) (H := J 149 1) (by omega) (by omega)
  have hpos : 0 < J 149 0 * J 149 1 := Int.mul_pos (by omega) (by omega)
  exact ⟨Int.emod_nonneg _ (by omega), Int.emod_lt_of_pos _ hpos, hpos, h49.2⟩
theorem MRdy_st {J : IM} (h : MRdy J) : MRdy (stM J) := by
  have hc := h.cell (nextSeed (J 148 3))
  obtain ⟨hM, hK, hs⟩ := id h
  unfold stM
  refine ⟨MW_dep hM (fun b b0 b1 => ?_) (fun k k0 k1 => ?_), ?_, ?_⟩
  · rw [iup_ne (by omega), iup_other (by decide), iup_other (by decide)]
    exact remM_lo hK (Or.inl b0)
  · by_cases he : k = nextSeed (J 148 3) / 65536 % (J 149 0 * J 149 1)
    · rw [he, iup_at]
      omega
    · rw [iup_ne (by omega), iup_other (by decide), iup_other (by decide), remM_lo hK (Or.inl (by omega))]
      exact hM.1.2.2.2.2.2.2 k k0 k1
  · rw [iup_ne (by omega), iup_ne (by omega), iup_ne (by omega), remM_k]
    omega
  · rw [iup_ne (by omega), iup_at]
    exact nextSeed_range _
theorem MRdy_d {I : IM} (h : MRdy I) : ∀ n : Nat, MRdy (dM n I)
  | 0 => h
  | n + 1 => MRdy_st (MRdy_d h n)
section DRM
variable {xs : RO} {d : Nat} {I : IM} {L : LM}

theorem c_Mod_drift {n : Int} (hn : -2147483648 ≤ n ∧ n ≤ 2147483647) (hR : MRdy I) : Wk xs x_Mod_drift (d + 8) 0 0 0 [some (vr 148), some (vi n), none, none] [] X2 I L (p2 fun u I' L' => (∃ z, u = some (vi z) ∧ ((¬ (1 ≤ n ∧ n ≤ 12) ∧ z = -1000000002 ∧ I' = I) ∨ ((1 ≤ n ∧ n ≤ 12) ∧ I' = dM n.toNat I ∧ z = mDG I' (I' 149 3)))) ∧ L' = L) := by
  have key : 1 ≤ n ∧ n ≤ 12 → Wk xs x_Mod_drift (d + 8) 0 0 15 [some (vr 148), some (vi n), some (vi 0), none] [] X2 (dM (0 : Int).toNat I) L (p2 fun u I' L' => (∃ z, u = some (vi z) ∧ ((¬ (1 ≤ n ∧ n ≤ 12) ∧ z = -1000000002 ∧ I' = I) ∨ ((1 ≤ n ∧ n ≤ 12) ∧ I' = dM n.toNat I ∧ z = mDG I' (I' 149 3)))) ∧ L' = L) := by
    intro hc7
    refine loopS (σ := Option AV) (fun k o => Wk xs x_Mod_drift (d + 8) 0 0 15 [some (vr 148), some (vi n), some (vi k), o] [] X2 (dM k.toNat I) L (p2 fun u I' L' => (∃ z, u = some (vi z) ∧ ((¬ (1 ≤ n ∧ n ≤ 12) ∧ z = -1000000002 ∧ I' = I) ∨ ((1 ≤ n ∧ n ≤ 12) ∧ I' = dM n.toNat I ∧ z = mDG I' (I' 149 3)))) ∧ L' = L)) (fun _ _ => True) n 0 none (by omega) trivial ?_ ?_
    · intro o _
      have hR2 := MRdy_d hR n.toNat
      refine Wk.iload_n (k := 2) (q := 16) (by decide +kernel) rfl rfl rfl ?_
      refine Wk.iload_n (k := 1) (q := 17) (by decide +kernel) rfl rfl rfl ?_
      refine Wk.icmp_ge (off := (37)) (t := 54) (q := 20) (by decide +kernel) (by decide) rfl (by first | omega | exact bi_rng _) (by first | omega | exact bi_rng _) (fun hc17 => ?_) (fun hc17 => ?_)
      · refine Wk.aload_n (k := 0) (q := 55) (by decide +kernel) rfl rfl rfl ?_
        refine Wk.cVi (q := 58) l_Mod_93 m_Mod_danger (by decide +kernel) (fun _ h => h) O_148 rfl (Nat.le_of_ble_eq_true rfl) (Nat.le_of_ble_eq_true rfl) rfl (c_Mod_danger hR2.1) rfl ?_
        exact Wk.riP (by decide +kernel) rfl (⟨⟨_, rfl, Or.inr ⟨hc7, rfl, rfl⟩⟩, rfl⟩)
      · omega
    · intro k o k0 k1 _ ih
      have hR2 := MRdy_d hR k.toNat
      rw [dM_step I k0] at ih
      generalize hJ : dM k.toNat I = J at hR2 ih ⊢
      have hcl := hR2.cell (nextSeed (J 148 3))
      have hs1 := nextSeed_range (J 148 3)
      have e3 : remM J 148 3 = J 148 3 := remM_8 (by decide)
      have e0 : remM J 149 0 = J 149 0 := remM_lo hR2.2.1 (Or.inl (by decide))
      have e1 : remM J 149 1 = J 149 1 := remM_lo hR2.2.1 (Or.inl (by decide))
      refine Wk.iload_n (k := 2) (q := 16) (by decide +kernel) rfl rfl rfl ?_
      refine Wk.iload_n (k := 1) (q := 17) (by decide +kernel) rfl rfl rfl ?_
      refine Wk.icmp_ge (off := (37)) (t := 54) (q := 20) (by decide +kernel) (by decide) rfl (by first | omega | exact bi_rng _) (by first | omega | exact bi_rng _) (fun hc17 => ?_) (fun hc17 => ?_)
      · omega
      · refine Wk.aload_n (k := 0) (q := 21) (by decide +kernel) rfl rfl rfl ?_
        refine Wk.cVv (q := 24) l_Mod_188 m_Mod_remember (by decide +kernel) (fun _ h => h) O_148 rfl (Nat.le_of_ble_eq_true rfl) (Nat.le_of_ble_eq_true rfl) rfl (c_Mod_remember hR2.2.1.1 hR2.2.1.2) rfl ?_
        refine Wk.aload_n (k := 0) (q := 25) (by decide +kernel) rfl rfl rfl ?_
        refine Wk.aload_n (k := 0) (q := 26) (by decide +kernel) rfl rfl rfl ?_
        refine Wk.cVi (q := 29) l_Mod_97 m_Mod_cells (by decide +kernel) (fun _ h => h) O_148 rfl (Nat.le_of_ble_eq_true rfl) (Nat.le_of_ble_eq_true rfl) rfl (c_Mod_cells) rfl ?_
        rw [e0, e1]
        refine Wk.cV (q := 32) l_Mod_213 m_Mod_draw (by decide +kernel) (fun _ h => h) O_148 rfl (Nat.le_of_ble_eq_true rfl) (Nat.le_of_ble_eq_true rfl) rfl (c_Mod_draw hcl.2.2.1 (by omega) (by rw [e3]; exact hR2.2.2)) rfl (fun v1 Ib Lb hP2 => ?_)
        obtain ⟨rfl, eB, eL2⟩ := hP2
        rw [eB, eL2, e3]
        refine Wk.istore_n (k := 3) (q := 33) (by decide +kernel) rfl (by decide) rfl (fun _ h => h) rfl ?_
        refine Wk.aload_n (k := 0) (q := 34) (by decide +kernel) rfl rfl rfl ?_
        refine Wk.getR (r := 149) (q := 37) f_Mod_7 (by decide +kernel) O_148 (by decide) rfl rfl rfl ?_
        refine Wk.bipush (n := 6) (q := 39) (by decide +kernel) (by decide +kernel) rfl ?_
        refine Wk.iload_n (k := 3) (q := 40) (by decide +kernel) rfl rfl rfl ?_
        refine Wk.iadd (q := 41) (by decide +kernel) rfl ?_
        refine Wk.aload_n (k := 0) (q := 42) (by decide +kernel) rfl rfl rfl ?_
        refine Wk.bipush (n := 10) (q := 44) (by decide +kernel) (by decide +kernel) rfl ?_
        refine Wk.cV (q := 47) l_Mod_213 m_Mod_draw (by decide +kernel) (fun _ h => h) O_148 rfl (Nat.le_of_ble_eq_true rfl) (Nat.le_of_ble_eq_true rfl) rfl (c_Mod_draw (by omega) (by omega) (by rw [iup_at]; exact hs1)) rfl (fun v2 Ic Lc hP3 => ?_)
        obtain ⟨rfl, eC, eL3⟩ := hP3
        rw [eC, eL3, iup_at]
        refine Wk.iastore (q := 48) (by decide +kernel) A_149 (by first | omega | exact bi_rng _) (by first | omega | exact bi_rng _) rfl ?_
        refine Wk.iinc (i := 2) (n := 1) (q := 51) (by decide +kernel) rfl (by decide) rfl (fun _ h => h) rfl ?_
        refine Wk.goto (off := (-36)) (q := 15) (by decide +kernel) (by decide) ?_
        exact ih _ trivial
  refine Wk.iload_n (k := 1) (q := 1) (by decide +kernel) rfl rfl rfl ?_
  refine Wk.iconst (n := 1) (q := 2) (by decide +kernel) rfl ?_
  refine Wk.bipush (n := 12) (q := 4) (by decide +kernel) (by decide +kernel) rfl ?_
  refine Wk.cSi (q := 7) l_Mod_36 m_Mod_in (by decide +kernel) (fun _ h => h) (Nat.le_of_ble_eq_true rfl) (Nat.le_of_ble_eq_true rfl) rfl (c_Mod_in hn (by omega) (by omega)) rfl ?_
  refine Wk.ifB_ne (off := (6)) (t := 13) (q := 10) (by decide +kernel) (by decide) rfl (fun hc7 => ?_) (fun hc7 => ?_)
  · refine Wk.iconst (n := 0) (q := 14) (by decide +kernel) rfl ?_
    refine Wk.istore_n (k := 2) (q := 15) (by decide +kernel) rfl (by decide) rfl (fun _ h => h) rfl ?_
    exact key hc7
  · refine Wk.ldc (z := (-1000000002)) (q := 12) k_Mod_159 (by decide +kernel) (by decide +kernel) rfl ?_
    exact Wk.riP (by decide +kernel) rfl (⟨⟨_, rfl, Or.inl ⟨hc7, rfl, rfl⟩⟩, rfl⟩)
end DRM
