/-! THE REFERENCE: its words and leaves -/
def MI0 (I : IM) : Prop := (2 ≤ I 149 0 ∧ I 149 0 ≤ 7) ∧ (2 ≤ I 149 1 ∧ I 149 1 ≤ 7) ∧ (-3 ≤ I 149 2 ∧ I 149 2 ≤ 3) ∧ (0 ≤ I 149 3 ∧ I 149 3 ≤ 255) ∧ (0 ≤ I 149 4 ∧ I 149 4 ≤ 5) ∧ (0 ≤ I 149 5 ∧ I 149 5 ≤ 3) ∧ ∀ k, 0 ≤ k → k < 49 → 0 ≤ I 149 (6 + k) ∧ I 149 (6 + k) ≤ 9
/-- a ship's numbers, at p; a cell -/
def MP (I : IM) (p : Int) : Prop := (55 ≤ p ∧ p ≤ 83) ∧ (1 ≤ I 149 p ∧ I 149 p ≤ 9) ∧ (0 ≤ I 149 (p + 1) ∧ I 149 (p + 1) ≤ 2) ∧ 1 ≤ I 149 (p + 2) ∧ I 149 (p + 2) ≤ 2
def mC (I : IM) (c : Int) : Prop := 0 ≤ c ∧ c < I 149 0 * I 149 1
theorem mcoord {W H c : Int} (hW : 2 ≤ W) (h0 : 0 ≤ c) (h1 : c < W * H) : (0 ≤ c % W ∧ c % W < W) ∧ 0 ≤ c / W ∧ c / W < H := by
  refine ⟨⟨Int.emod_nonneg c (by omega), Int.emod_lt_of_pos c (by omega)⟩, Int.ediv_nonneg h0 (by omega), Int.ediv_lt_of_lt_mul (by omega) ?_⟩
  rw [Int.mul_comm]; exact h1
noncomputable abbrev mwat (I : IM) (x y : Int) : Int := wat (I 149 0) (I 149 1) (I 149 2) (fun k => I 149 (6 + k)) x y
abbrev mLO (I : IM) (p c w x y : Int) : Prop := LO (I 149 (p + 1)) (I 149 (p + 2)) (c % I 149 0) (c / I 149 0) w x y
abbrev mSW (I : IM) (p c x y : Int) : Prop := SWP (I 149 3) (I 149 (p + 1)) (I 149 (p + 2)) (c % I 149 0) (c / I 149 0) x y
abbrev mML (I : IM) (F p c : Int) : Prop := ML (I 149 0) (I 149 1) (I 149 2) (fun k => I 149 (6 + k)) F (I 149 p) (I 149 (p + 1)) (I 149 (p + 2)) (c % I 149 0) (c / I 149 0)
abbrev mCL (I : IM) (F p c q e : Int) : Prop := CL F (I 149 (p + 1)) (I 149 (p + 2)) (c % I 149 0) (c / I 149 0) (I 149 (q + 1)) (I 149 (q + 2)) (e % I 149 0) (e / I 149 0)
noncomputable def mval (I : IM) (t x y : Int) : Int := @ite Int (inE (I 149 0) (I 149 1) x y ∨ ¬ t = 0) (Classical.propDecidable _) (mwat I x y) (-1)
theorem mval_in {I : IM} {t x y : Int} (h : inE (I 149 0) (I 149 1) x y ∨ ¬ t = 0) : mval I t x y = mwat I x y := by unfold mval; rw [if_pos h]
theorem mval_out {I : IM} {t x y : Int} (h : ¬ (inE (I 149 0) (I 149 1) x y ∨ ¬ t = 0)) : mval I t x y = -1 := by unfold mval; rw [if_neg h]
theorem mwat_range {I : IM} (h : MI0 I) (x y : Int) : 0 ≤ mwat I x y ∧ mwat I x y ≤ 12 := by
  by_cases hi : inE (I 149 0) (I 149 1) x y
  · obtain ⟨h1, h2, h3, -, -, -, h7⟩ := h
    have hb := cellB (W := I 149 0) (H := I 149 1) (x := x) (y := y) ⟨hi.1, hi.2.1⟩ ⟨hi.2.2.1, hi.2.2.2⟩
    have h49 := WH49 (W := I 149 0) (H := I 149 1) (by omega) (by omega)
    have := h7 (y * I 149 0 + x) (by omega) (by omega)
    rw [mwat, wat_in hi]
    omega
  · rw [mwat, wat_out hi]
    omega
theorem mval_range {I : IM} (h : MI0 I) (t x y : Int) : -1 ≤ mval I t x y ∧ mval I t x y ≤ 12 := by
  have := mwat_range h x y
  by_cases hi : inE (I 149 0) (I 149 1) x y ∨ ¬ t = 0
  · rw [mval_in hi]; omega
  · rw [mval_out hi]; omega
theorem or_nil {s : Int} (h0 : 0 ≤ s) (h1 : s ≤ 2147483647) : (nZ s ||| nZ 0).toInt = s := by
  rw [nZ_0, Int32.or_zero, nZ_toInt (by omega) h1]
section MOA
variable {xs : RO} {d : Nat} {I : IM} {L : LM}

theorem c_Mod_in {v l h : Int} (hv : -2147483648 ≤ v ∧ v ≤ 2147483647) (hl : -2147483648 ≤ l ∧ l ≤ 2147483647) (hh : -2147483648 ≤ h ∧ h ≤ 2147483647) : Wk xs x_Mod_in d 0 0 0 [some (vi v), some (vi l), some (vi h)] [] X2 I L (pI (bi (l ≤ v ∧ v ≤ h)) I L) := by
  refine Wk.iload_n (k := 0) (q := 1) (by decide +kernel) rfl rfl rfl ?_
  refine Wk.iload_n (k := 1) (q := 2) (by decide +kernel) rfl rfl rfl ?_
  refine Wk.icmp_lt (off := (12)) (t := 14) (q := 5) (by decide +kernel) (by decide) rfl (by first | omega | exact bi_rng _) (by first | omega | exact bi_rng _) (fun hc2 => ?_) (fun hc2 => ?_)
  · refine Wk.iconst (n := 0) (q := 15) (by decide +kernel) rfl ?_
    exact Wk.rZ (by decide +kernel) rfl (by first | omega | decide | exact bi_01 _) (by first | rw [bi_t (by omega)] | rw [bi_f (by omega)])
  · refine Wk.iload_n (k := 0) (q := 6) (by decide +kernel) rfl rfl rfl ?_
    refine Wk.iload_n (k := 2) (q := 7) (by decide +kernel) rfl rfl rfl ?_
    refine Wk.icmp_gt (off := (7)) (t := 14) (q := 10) (by decide +kernel) (by decide) rfl (by first | omega | exact bi_rng _) (by first | omega | exact bi_rng _) (fun hc7 => ?_) (fun hc7 => ?_)
    · refine Wk.iconst (n := 0) (q := 15) (by decide +kernel) rfl ?_
      exact Wk.rZ (by decide +kernel) rfl (by first | omega | decide | exact bi_01 _) (by first | rw [bi_t (by omega)] | rw [bi_f (by omega)])
    · refine Wk.iconst (n := 1) (q := 11) (by decide +kernel) rfl ?_
      refine Wk.goto (off := (4)) (q := 15) (by decide +kernel) (by decide) ?_
      exact Wk.rZ (by decide +kernel) rfl (by first | omega | decide | exact bi_01 _) (by first | rw [bi_t (by omega)] | rw [bi_f (by omega)])
theorem c_Mod_has {F k : Int} (h0 : 0 ≤ F) (h1 : F ≤ 2147483647) (h2 : 0 ≤ k) (h3 : k ≤ 30) : Wk xs x_Mod_has d 0 0 0 [some (vi F), some (vi k)] [] X2 I L (pI (bi (bt F k = true)) I L) := by
  refine Wk.iload_n (k := 0) (q := 1) (by decide +kernel) rfl rfl rfl ?_
  refine Wk.iload_n (k := 1) (q := 2) (by decide +kernel) rfl rfl rfl ?_
  refine Wk.ishr (q := 3) (by decide +kernel) rfl ?_
  refine Wk.iconst (n := 1) (q := 4) (by decide +kernel) rfl ?_
  refine Wk.iand (q := 5) (by decide +kernel) rfl ?_
  rw [bit_int h0 h1 h2 h3]
  refine Wk.iconst (n := 1) (q := 6) (by decide +kernel) rfl ?_
  refine Wk.icmp_ne (off := (7)) (t := 13) (q := 9) (by decide +kernel) (by decide) rfl (by first | omega | exact bi_rng _) (by first | omega | exact bi_rng _) (fun hc6 => ?_) (fun hc6 => ?_)
  · refine Wk.iconst (n := 0) (q := 14) (by decide +kernel) rfl ?_
    exact Wk.rZ (by decide +kernel) rfl (by first | omega | decide | exact bi_01 _) (by first | (rw [bi_t (bi_eq1.mp hc6)]; done) | (rw [bi_f (fun z => hc6 (bi_eq1.mpr z))]; done))
  · refine Wk.iconst (n := 1) (q := 10) (by decide +kernel) rfl ?_
    refine Wk.goto (off := (4)) (q := 14) (by decide +kernel) (by decide) ?_
    exact Wk.rZ (by decide +kernel) rfl (by first | omega | decide | exact bi_01 _) (by first | (rw [bi_t (bi_eq1.mp hc6)]; done) | (rw [bi_f (fun z => hc6 (bi_eq1.mpr z))]; done))
theorem c_Mod_shipAt {a : Int} : Wk xs x_Mod_shipAt d 0 0 0 [some (vi a)] [] X2 I L (pI (55 + 4 * a) I L) := by
  refine Wk.bipush (n := 55) (q := 2) (by decide +kernel) (by decide +kernel) rfl ?_
  refine Wk.iconst (n := 4) (q := 3) (by decide +kernel) rfl ?_
  refine Wk.iload_n (k := 0) (q := 4) (by decide +kernel) rfl rfl rfl ?_
  refine Wk.imul (q := 5) (by decide +kernel) rfl ?_
  refine Wk.iadd (q := 6) (by decide +kernel) rfl ?_
  exact Wk.rI (by decide +kernel) rfl (rfl)
theorem c_Mod_waitAt {a : Int} : Wk xs x_Mod_waitAt d 0 0 0 [some (vi a)] [] X2 I L (pI (75 + 4 * a) I L) := by
  refine Wk.bipush (n := 75) (q := 2) (by decide +kernel) (by decide +kernel) rfl ?_
  refine Wk.iconst (n := 4) (q := 3) (by decide +kernel) rfl ?_
  refine Wk.iload_n (k := 0) (q := 4) (by decide +kernel) rfl rfl rfl ?_
  refine Wk.imul (q := 5) (by decide +kernel) rfl ?_
  refine Wk.iadd (q := 6) (by decide +kernel) rfl ?_
  exact Wk.rI (by decide +kernel) rfl (rfl)
theorem c_Mod_cells : Wk xs x_Mod_cells d 0 0 0 [some (vr 148)] [] X2 I L (pI (I 149 0 * I 149 1) I L) := by
  refine Wk.aload_n (k := 0) (q := 1) (by decide +kernel) rfl rfl rfl ?_
  refine Wk.getR (r := 149) (q := 4) f_Mod_7 (by decide +kernel) O_148 (by decide) rfl rfl rfl ?_
  refine Wk.iconst (n := 0) (q := 5) (by decide +kernel) rfl ?_
  refine Wk.iaload (q := 6) (by decide +kernel) A_149 (by first | omega | exact bi_rng _) (by first | omega | exact bi_rng _) rfl ?_
  refine Wk.aload_n (k := 0) (q := 7) (by decide +kernel) rfl rfl rfl ?_
  refine Wk.getR (r := 149) (q := 10) f_Mod_7 (by decide +kernel) O_148 (by decide) rfl rfl rfl ?_
  refine Wk.iconst (n := 1) (q := 11) (by decide +kernel) rfl ?_
  refine Wk.iaload (q := 12) (by decide +kernel) A_149 (by first | omega | exact bi_rng _) (by first | omega | exact bi_rng _) rfl ?_
  refine Wk.imul (q := 13) (by decide +kernel) rfl ?_
  exact Wk.rI (by decide +kernel) rfl (rfl)
theorem c_Mod_isShip {a : Int} (ha : -2147483648 ≤ a ∧ a ≤ 2147483647) (hI : MI0 I) : Wk xs x_Mod_isShip (d + 1) 0 0 0 [some (vr 148), some (vi a)] [] X2 I L (pI (bi (0 ≤ a ∧ a < I 149 4)) I L) := by
  obtain ⟨hW, hH, hT, hF, hA, hK, hD⟩ := id hI
  refine Wk.iload_n (k := 1) (q := 1) (by decide +kernel) rfl rfl rfl ?_
  refine Wk.iconst (n := 0) (q := 2) (by decide +kernel) rfl ?_
  refine Wk.aload_n (k := 0) (q := 3) (by decide +kernel) rfl rfl rfl ?_
  refine Wk.getR (r := 149) (q := 6) f_Mod_7 (by decide +kernel) O_148 (by decide) rfl rfl rfl ?_
  refine Wk.iconst (n := 4) (q := 7) (by decide +kernel) rfl ?_
  refine Wk.iaload (q := 8) (by decide +kernel) A_149 (by first | omega | exact bi_rng _) (by first | omega | exact bi_rng _) rfl ?_
  refine Wk.iconst (n := 1) (q := 9) (by decide +kernel) rfl ?_
  refine Wk.isub (q := 10) (by decide +kernel) rfl ?_
  refine Wk.cSi (q := 13) l_Mod_36 m_Mod_in (by decide +kernel) (fun _ h => h) (Nat.le_of_ble_eq_true rfl) (Nat.le_of_ble_eq_true rfl) rfl (c_Mod_in (by omega) (by omega) (by omega)) rfl ?_
  exact Wk.rZ (by decide +kernel) rfl (by first | omega | decide | exact bi_01 _) (bi_cong (by omega))
theorem c_Mod_isWaiting {a : Int} (ha : -2147483648 ≤ a ∧ a ≤ 2147483647) (hI : MI0 I) : Wk xs x_Mod_isWaiting (d + 1) 0 0 0 [some (vr 148), some (vi a)] [] X2 I L (pI (bi (0 ≤ a ∧ a < I 149 5)) I L) := by
  obtain ⟨hW, hH, hT, hF, hA, hK, hD⟩ := id hI
  refine Wk.iload_n (k := 1) (q := 1) (by decide +kernel) rfl rfl rfl ?_
  refine Wk.iconst (n := 0) (q := 2) (by decide +kernel) rfl ?_
  refine Wk.aload_n (k := 0) (q := 3) (by decide +kernel) rfl rfl rfl ?_
  refine Wk.getR (r := 149) (q := 6) f_Mod_7 (by decide +kernel) O_148 (by decide) rfl rfl rfl ?_
  refine Wk.iconst (n := 5) (q := 7) (by decide +kernel) rfl ?_
  refine Wk.iaload (q := 8) (by decide +kernel) A_149 (by first | omega | exact bi_rng _) (by first | omega | exact bi_rng _) rfl ?_
  refine Wk.iconst (n := 1) (q := 9) (by decide +kernel) rfl ?_
  refine Wk.isub (q := 10) (by decide +kernel) rfl ?_
  refine Wk.cSi (q := 13) l_Mod_36 m_Mod_in (by decide +kernel) (fun _ h => h) (Nat.le_of_ble_eq_true rfl) (Nat.le_of_ble_eq_true rfl) rfl (c_Mod_in (by omega) (by omega) (by omega)) rfl ?_
  exact Wk.rZ (by decide +kernel) rfl (by first | omega | decide | exact bi_01 _) (bi_cong (by omega))
theorem c_Mod_isCell {x y : Int} (hx : -2147483648 ≤ x ∧ x ≤ 2147483647) (hy : -2147483648 ≤ y ∧ y ≤ 2147483647) (hI : MI0 I) : Wk xs x_Mod_isCell (d + 1) 0 0 0 [some (vr 148), some (vi x), some (vi y)] [] X2 I L (pI (bi (inE (I 149 0) (I 149 1) x y)) I L) := by
  obtain ⟨hW, hH, hT, hF, hA, hK, hD⟩ := id hI
  refine Wk.iload_n (k := 1) (q := 1) (by decide +kernel) rfl rfl rfl ?_
  refine Wk.iconst (n := 0) (q := 2) (by decide +kernel) rfl ?_
  refine Wk.aload_n (k := 0) (q := 3) (by decide +kernel) rfl rfl rfl ?_
  refine Wk.getR (r := 149) (q := 6) f_Mod_7 (by decide +kernel) O_148 (by decide) rfl rfl rfl ?_
  refine Wk.iconst (n := 0) (q := 7) (by decide +kernel) rfl ?_
  refine Wk.iaload (q := 8) (by decide +kernel) A_149 (by first | omega | exact bi_rng _) (by first | omega | exact bi_rng _) rfl ?_
  refine Wk.iconst (n := 1) (q := 9) (by decide +kernel) rfl ?_
  refine Wk.isub (q := 10) (by decide +kernel) rfl ?_
  refine Wk.cSi (q := 13) l_Mod_36 m_Mod_in (by decide +kernel) (fun _ h => h) (Nat.le_of_ble_eq_true rfl) (Nat.le_of_ble_eq_true rfl) rfl (c_Mod_in (by omega) (by omega) (by omega)) rfl ?_
  refine Wk.ifB_eq (off := (23)) (t := 36) (q := 16) (by decide +kernel) (by decide) rfl (fun hc13 => ?_) (fun hc13 => ?_)
  · refine Wk.iconst (n := 0) (q := 37) (by decide +kernel) rfl ?_
    exact Wk.rZ (by decide +kernel) rfl (by first | omega | decide | exact bi_01 _) (by first | rw [bi_t (by unfold inE; omega)] | rw [bi_f (by unfold inE; omega)])
  · refine Wk.iload_n (k := 2) (q := 17) (by decide +kernel) rfl rfl rfl ?_
    refine Wk.iconst (n := 0) (q := 18) (by decide +kernel) rfl ?_
    refine Wk.aload_n (k := 0) (q := 19) (by decide +kernel) rfl rfl rfl ?_
    refine Wk.getR (r := 149) (q := 22) f_Mod_7 (by decide +kernel) O_148 (by decide) rfl rfl rfl ?_
    refine Wk.iconst (n := 1) (q := 23) (by decide +kernel) rfl ?_
    refine Wk.iaload (q := 24) (by decide +kernel) A_149 (by first | omega | exact bi_rng _) (by first | omega | exact bi_rng _) rfl ?_
    refine Wk.iconst (n := 1) (q := 25) (by decide +kernel) rfl ?_
    refine Wk.isub (q := 26) (by decide +kernel) rfl ?_
    refine Wk.cSi (q := 29) l_Mod_36 m_Mod_in (by decide +kernel) (fun _ h => h) (Nat.le_of_ble_eq_true rfl) (Nat.le_of_ble_eq_true rfl) rfl (c_Mod_in (by omega) (by omega) (by omega)) rfl ?_
    refine Wk.ifB_eq (off := (7)) (t := 36) (q := 32) (by decide +kernel) (by decide) rfl (fun hc29 => ?_) (fun hc29 => ?_)
    · refine Wk.iconst (n := 0) (q := 37) (by decide +kernel) rfl ?_
      exact Wk.rZ (by decide +kernel) rfl (by first | omega | decide | exact bi_01 _) (by first | rw [bi_t (by unfold inE; omega)] | rw [bi_f (by unfold inE; omega)])
    · refine Wk.iconst (n := 1) (q := 33) (by decide +kernel) rfl ?_
      refine Wk.goto (off := (4)) (q := 37) (by decide +kernel) (by decide) ?_
      exact Wk.rZ (by decide +kernel) rfl (by first | omega | decide | exact bi_01 _) (by first | rw [bi_t (by unfold inE; omega)] | rw [bi_f (by unfold inE; omega)])
theorem c_Mod_water {x y : Int} (hx : -2147483648 ≤ x ∧ x ≤ 2147483647) (hy : -2147483648 ≤ y ∧ y ≤ 2147483647) (hI : MI0 I) : Wk xs x_Mod_water (d + 2) 0 0 0 [some (vr 148), some (vi x), some (vi y), none] [] X2 I L (pI (mwat I x y) I L) := by
  obtain ⟨hW, hH, hT, hF, hA, hK, hD⟩ := id hI
  refine Wk.aload_n (k := 0) (q := 1) (by decide +kernel) rfl rfl rfl ?_
  refine Wk.iload_n (k := 1) (q := 2) (by decide +kernel) rfl rfl rfl ?_
  refine Wk.iload_n (k := 2) (q := 3) (by decide +kernel) rfl rfl rfl ?_
  refine Wk.cVi (q := 6) l_Mod_40 m_Mod_isCell (by decide +kernel) (fun _ h => h) O_148 rfl (Nat.le_of_ble_eq_true rfl) (Nat.le_of_ble_eq_true rfl) rfl (c_Mod_isCell hx hy hI) rfl ?_
  refine Wk.ifB_eq (off := (31)) (t := 37) (q := 9) (by decide +kernel) (by decide) rfl (fun hc6 => ?_) (fun hc6 => ?_)
  · have e1 := wat_out (t := I 149 2) (dep := fun k => I 149 (6 + k)) hc6
    refine Wk.iconst (n := 0) (q := 38) (by decide +kernel) rfl ?_
    refine Wk.istore_n (k := 3) (q := 39) (by decide +kernel) rfl (by decide) rfl (fun _ h => h) rfl ?_
    refine Wk.iload_n (k := 3) (q := 40) (by decide +kernel) rfl rfl rfl ?_
    refine Wk.if_ge (off := (7)) (t := 47) (q := 43) (by decide +kernel) (by decide) rfl (by first | omega | exact bi_rng _) (fun hc40 => ?_) (fun hc40 => ?_)
    · refine Wk.iload_n (k := 3) (q := 48) (by decide +kernel) rfl rfl rfl ?_
      exact Wk.rI (by decide +kernel) rfl (by rw [mwat, e1] <;> omega)
    · refine Wk.iconst (n := 0) (q := 44) (by decide +kernel) rfl ?_
      refine Wk.goto (off := (4)) (q := 48) (by decide +kernel) (by decide) ?_
      exact Wk.rI (by decide +kernel) rfl (by rw [mwat, e1] <;> omega)
  · have hb := cellB (W := I 149 0) (H := I 149 1) (x := x) (y := y) ⟨hc6.1, hc6.2.1⟩ ⟨hc6.2.2.1, hc6.2.2.2⟩
    have h49 := WH49 (W := I 149 0) (H := I 149 1) (by omega) (by omega)
    have hdp := hD (y * I 149 0 + x) (by omega) (by omega)
    have e1 := wat_in (t := I 149 2) (dep := fun k => I 149 (6 + k)) hc6
    refine Wk.aload_n (k := 0) (q := 10) (by decide +kernel) rfl rfl rfl ?_
    refine Wk.getR (r := 149) (q := 13) f_Mod_7 (by decide +kernel) O_148 (by decide) rfl rfl rfl ?_
    refine Wk.bipush (n := 6) (q := 15) (by decide +kernel) (by decide +kernel) rfl ?_
    refine Wk.iload_n (k := 2) (q := 16) (by decide +kernel) rfl rfl rfl ?_
    refine Wk.aload_n (k := 0) (q := 17) (by decide +kernel) rfl rfl rfl ?_
    refine Wk.getR (r := 149) (q := 20) f_Mod_7 (by decide +kernel) O_148 (by decide) rfl rfl rfl ?_
    refine Wk.iconst (n := 0) (q := 21) (by decide +kernel) rfl ?_
    refine Wk.iaload (q := 22) (by decide +kernel) A_149 (by first | omega | exact bi_rng _) (by first | omega | exact bi_rng _) rfl ?_
    refine Wk.imul (q := 23) (by decide +kernel) rfl ?_
    refine Wk.iadd (q := 24) (by decide +kernel) rfl ?_
    refine Wk.iload_n (k := 1) (q := 25) (by decide +kernel) rfl rfl rfl ?_
    refine Wk.iadd (q := 26) (by decide +kernel) rfl ?_
    rw [Int.add_assoc]
    refine Wk.iaload (q := 27) (by decide +kernel) A_149 (by first | omega | exact bi_rng _) (by first | omega | exact bi_rng _) rfl ?_
    refine Wk.aload_n (k := 0) (q := 28) (by decide +kernel) rfl rfl rfl ?_
    refine Wk.getR (r := 149) (q := 31) f_Mod_7 (by decide +kernel) O_148 (by decide) rfl rfl rfl ?_
    refine Wk.iconst (n := 2) (q := 32) (by decide +kernel) rfl ?_
    refine Wk.iaload (q := 33) (by decide +kernel) A_149 (by first | omega | exact bi_rng _) (by first | omega | exact bi_rng _) rfl ?_
    refine Wk.iadd (q := 34) (by decide +kernel) rfl ?_
    refine Wk.goto (off := (4)) (q := 38) (by decide +kernel) (by decide) ?_
    refine Wk.istore_n (k := 3) (q := 39) (by decide +kernel) rfl (by decide) rfl (fun _ h => h) rfl ?_
    refine Wk.iload_n (k := 3) (q := 40) (by decide +kernel) rfl rfl rfl ?_
    refine Wk.if_ge (off := (7)) (t := 47) (q := 43) (by decide +kernel) (by decide) rfl (by first | omega | exact bi_rng _) (fun hc40 => ?_) (fun hc40 => ?_)
    · refine Wk.iload_n (k := 3) (q := 48) (by decide +kernel) rfl rfl rfl ?_
      exact Wk.rI (by decide +kernel) rfl (by rw [mwat, e1] <;> omega)
    · refine Wk.iconst (n := 0) (q := 44) (by decide +kernel) rfl ?_
      refine Wk.goto (off := (4)) (q := 48) (by decide +kernel) (by decide) ?_
      exact Wk.rI (by decide +kernel) rfl (by rw [mwat, e1] <;> omega)
theorem c_Mod_windX {w : Int} (h0 : 0 ≤ w) (h1 : w < 8) : Wk xs x_Mod_windX d 0 0 0 [some (vi w)] [] X2 I L (pI (windX w) I L) := by
  refine Wk.iload_n (k := 0) (q := 1) (by decide +kernel) rfl rfl rfl ?_
  refine Wk.if_eq (off := (8)) (t := 9) (q := 4) (by decide +kernel) (by decide) rfl (by first | omega | exact bi_rng _) (fun hc1 => ?_) (fun hc1 => ?_)
  · refine Wk.iconst (n := 0) (q := 10) (by decide +kernel) rfl ?_
    refine Wk.goto (off := (13)) (q := 23) (by decide +kernel) (by decide) ?_
    exact Wk.rI (by decide +kernel) rfl (by unfold windX; split <;> (try split) <;> omega)
  · refine Wk.iload_n (k := 0) (q := 5) (by decide +kernel) rfl rfl rfl ?_
    refine Wk.iconst (n := 4) (q := 6) (by decide +kernel) rfl ?_
    refine Wk.icmp_ne (off := (7)) (t := 13) (q := 9) (by decide +kernel) (by decide) rfl (by first | omega | exact bi_rng _) (by first | omega | exact bi_rng _) (fun hc6 => ?_) (fun hc6 => ?_)
    · refine Wk.iload_n (k := 0) (q := 14) (by decide +kernel) rfl rfl rfl ?_
      refine Wk.iconst (n := 4) (q := 15) (by decide +kernel) rfl ?_
      refine Wk.icmp_ge (off := (7)) (t := 22) (q := 18) (by decide +kernel) (by decide) rfl (by first | omega | exact bi_rng _) (by first | omega | exact bi_rng _) (fun hc15 => ?_) (fun hc15 => ?_)
      · refine Wk.iconst (n := (-1)) (q := 23) (by decide +kernel) rfl ?_
        exact Wk.rI (by decide +kernel) rfl (by unfold windX; split <;> (try split) <;> omega)
      · refine Wk.iconst (n := 1) (q := 19) (by decide +kernel) rfl ?_
        refine Wk.goto (off := (4)) (q := 23) (by decide +kernel) (by decide) ?_
        exact Wk.rI (by decide +kernel) rfl (by unfold windX; split <;> (try split) <;> omega)
    · refine Wk.iconst (n := 0) (q := 10) (by decide +kernel) rfl ?_
      refine Wk.goto (off := (13)) (q := 23) (by decide +kernel) (by decide) ?_
      exact Wk.rI (by decide +kernel) rfl (by unfold windX; split <;> (try split) <;> omega)
theorem c_Mod_windY {w : Int} (h0 : 0 ≤ w) (h1 : w < 8) : Wk xs x_Mod_windY d 0 0 0 [some (vi w)] [] X2 I L (pI (windY w) I L) := by
  refine Wk.iload_n (k := 0) (q := 1) (by decide +kernel) rfl rfl rfl ?_
  refine Wk.iconst (n := 2) (q := 2) (by decide +kernel) rfl ?_
  refine Wk.icmp_eq (off := (9)) (t := 11) (q := 5) (by decide +kernel) (by decide) rfl (by first | omega | exact bi_rng _) (by first | omega | exact bi_rng _) (fun hc2 => ?_) (fun hc2 => ?_)
  · refine Wk.iconst (n := 0) (q := 12) (by decide +kernel) rfl ?_
    refine Wk.goto (off := (19)) (q := 31) (by decide +kernel) (by decide) ?_
    exact Wk.rI (by decide +kernel) rfl (by unfold windY; split <;> (try split) <;> omega)
  · refine Wk.iload_n (k := 0) (q := 6) (by decide +kernel) rfl rfl rfl ?_
    refine Wk.bipush (n := 6) (q := 8) (by decide +kernel) (by decide +kernel) rfl ?_
    refine Wk.icmp_ne (off := (7)) (t := 15) (q := 11) (by decide +kernel) (by decide) rfl (by first | omega | exact bi_rng _) (by first | omega | exact bi_rng _) (fun hc8 => ?_) (fun hc8 => ?_)
    · refine Wk.iload_n (k := 0) (q := 16) (by decide +kernel) rfl rfl rfl ?_
      refine Wk.iconst (n := 2) (q := 17) (by decide +kernel) rfl ?_
      refine Wk.icmp_lt (off := (9)) (t := 26) (q := 20) (by decide +kernel) (by decide) rfl (by first | omega | exact bi_rng _) (by first | omega | exact bi_rng _) (fun hc17 => ?_) (fun hc17 => ?_)
      · refine Wk.iconst (n := 1) (q := 27) (by decide +kernel) rfl ?_
        refine Wk.goto (off := (4)) (q := 31) (by decide +kernel) (by decide) ?_
        exact Wk.rI (by decide +kernel) rfl (by unfold windY; split <;> (try split) <;> omega)
      · refine Wk.iload_n (k := 0) (q := 21) (by decide +kernel) rfl rfl rfl ?_
        refine Wk.bipush (n := 6) (q := 23) (by decide +kernel) (by decide +kernel) rfl ?_
        refine Wk.icmp_le (off := (7)) (t := 30) (q := 26) (by decide +kernel) (by decide) rfl (by first | omega | exact bi_rng _) (by first | omega | exact bi_rng _) (fun hc23 => ?_) (fun hc23 => ?_)
        · refine Wk.iconst (n := (-1)) (q := 31) (by decide +kernel) rfl ?_
          exact Wk.rI (by decide +kernel) rfl (by unfold windY; split <;> (try split) <;> omega)
        · refine Wk.iconst (n := 1) (q := 27) (by decide +kernel) rfl ?_
          refine Wk.goto (off := (4)) (q := 31) (by decide +kernel) (by decide) ?_
          exact Wk.rI (by decide +kernel) rfl (by unfold windY; split <;> (try split) <;> omega)
    · refine Wk.iconst (n := 0) (q := 12) (by decide +kernel) rfl ?_
      refine Wk.goto (off := (19)) (q := 31) (by decide +kernel) (by decide) ?_
      exact Wk.rI (by decide +kernel) rfl (by unfold windY; split <;> (try split) <;> omega)
theorem c_Mod_left {p c w : Int} (hI : MI0 I) (hp : MP I p) (hc : mC I c) (h0 : 0 ≤ w) (h1 : w < 8) : Wk xs x_Mod_left (d + 1) 0 0 0 [some (vr 148), some (vi p), some (vi c), some (vi w)] [] X2 I L (pI (c % I 149 0 + I 149 (p + 1) * windX w) I L) := by
  obtain ⟨hW, hH, hT, hF, hA, hK, hD⟩ := id hI
  obtain ⟨hp0, hdr, hch, hsd⟩ := id hp
  obtain ⟨hc0, hc1⟩ := id hc
  have h49 := WH49 (W := I 149 0) (H := I 149 1) (by omega) (by omega)
  obtain ⟨hcx, hcy⟩ := mcoord hW.1 hc0 hc1
  refine Wk.iload_n (k := 2) (q := 1) (by decide +kernel) rfl rfl rfl ?_
  refine Wk.aload_n (k := 0) (q := 2) (by decide +kernel) rfl rfl rfl ?_
  refine Wk.getR (r := 149) (q := 5) f_Mod_7 (by decide +kernel) O_148 (by decide) rfl rfl rfl ?_
  refine Wk.iconst (n := 0) (q := 6) (by decide +kernel) rfl ?_
  refine Wk.iaload (q := 7) (by decide +kernel) A_149 (by first | omega | exact bi_rng _) (by first | omega | exact bi_rng _) rfl ?_
  refine Wk.irem (q := 8) (by decide +kernel) (by first | omega | exact bi_rng _) (by first | omega | exact bi_rng _) rfl ?_
  refine Wk.aload_n (k := 0) (q := 9) (by decide +kernel) rfl rfl rfl ?_
  refine Wk.getR (r := 149) (q := 12) f_Mod_7 (by decide +kernel) O_148 (by decide) rfl rfl rfl ?_
  refine Wk.iload_n (k := 1) (q := 13) (by decide +kernel) rfl rfl rfl ?_
  refine Wk.iconst (n := 1) (q := 14) (by decide +kernel) rfl ?_
  refine Wk.iadd (q := 15) (by decide +kernel) rfl ?_
  refine Wk.iaload (q := 16) (by decide +kernel) A_149 (by first | omega | exact bi_rng _) (by first | omega | exact bi_rng _) rfl ?_
  refine Wk.iload_n (k := 3) (q := 17) (by decide +kernel) rfl rfl rfl ?_
  refine Wk.cSi (q := 20) l_Mod_44 m_Mod_windX (by decide +kernel) (fun _ h => h) (Nat.le_of_ble_eq_true rfl) (Nat.le_of_ble_eq_true rfl) rfl (c_Mod_windX h0 h1) rfl ?_
  refine Wk.imul (q := 21) (by decide +kernel) rfl ?_
  refine Wk.iadd (q := 22) (by decide +kernel) rfl ?_
  exact Wk.rI (by decide +kernel) rfl (rfl)
theorem c_Mod_top {p c w : Int} (hI : MI0 I) (hp : MP I p) (hc : mC I c) (h0 : 0 ≤ w) (h1 : w < 8) : Wk xs x_Mod_top (d + 1) 0 0 0 [some (vr 148), some (vi p), some (vi c), some (vi w)] [] X2 I L (pI (c / I 149 0 + I 149 (p + 1) * windY w) I L) := by
  obtain ⟨hW, hH, hT, hF, hA, hK, hD⟩ := id hI
  obtain ⟨hp0, hdr, hch, hsd⟩ := id hp
  obtain ⟨hc0, hc1⟩ := id hc
  have h49 := WH49 (W := I 149 0) (H := I 149 1) (by omega) (by omega)
  obtain ⟨hcx, hcy⟩ := mcoord hW.1 hc0 hc1
  refine Wk.iload_n (k := 2) (q := 1) (by decide +kernel) rfl rfl rfl ?_
  refine Wk.aload_n (k := 0) (q := 2) (by decide +kernel) rfl rfl rfl ?_
  refine Wk.getR (r := 149) (q := 5) f_Mod_7 (by decide +kernel) O_148 (by decide) rfl rfl rfl ?_
  refine Wk.iconst (n := 0) (q := 6) (by decide +kernel) rfl ?_
  refine Wk.iaload (q := 7) (by decide +kernel) A_149 (by first | omega | exact bi_rng _) (by first | omega | exact bi_rng _) rfl ?_
  refine Wk.idiv (q := 8) (by decide +kernel) (by first | omega | exact bi_rng _) (by first | omega | exact bi_rng _) rfl ?_
  refine Wk.aload_n (k := 0) (q := 9) (by decide +kernel) rfl rfl rfl ?_
  refine Wk.getR (r := 149) (q := 12) f_Mod_7 (by decide +kernel) O_148 (by decide) rfl rfl rfl ?_
  refine Wk.iload_n (k := 1) (q := 13) (by decide +kernel) rfl rfl rfl ?_
  refine Wk.iconst (n := 1) (q := 14) (by decide +kernel) rfl ?_
  refine Wk.iadd (q := 15) (by decide +kernel) rfl ?_
  refine Wk.iaload (q := 16) (by decide +kernel) A_149 (by first | omega | exact bi_rng _) (by first | omega | exact bi_rng _) rfl ?_
  refine Wk.iload_n (k := 3) (q := 17) (by decide +kernel) rfl rfl rfl ?_
  refine Wk.cSi (q := 20) l_Mod_48 m_Mod_windY (by decide +kernel) (fun _ h => h) (Nat.le_of_ble_eq_true rfl) (Nat.le_of_ble_eq_true rfl) rfl (c_Mod_windY h0 h1) rfl ?_
  refine Wk.imul (q := 21) (by decide +kernel) rfl ?_
  refine Wk.iadd (q := 22) (by decide +kernel) rfl ?_
  exact Wk.rI (by decide +kernel) rfl (rfl)
theorem c_Mod_liesOn {p c w x y : Int} (hI : MI0 I) (hp : MP I p) (hc : mC I c) (h0 : 0 ≤ w) (h1 : w < 8) (hx : 0 ≤ x ∧ x ≤ 6) (hy : 0 ≤ y ∧ y ≤ 6) : Wk xs x_Mod_liesOn (d + 2) 0 0 0 [some (vr 148), some (vi p), some (vi c), some (vi w), some (vi x), some (vi y), none, none] [] X2 I L (pI (bi (mLO I p c w x y)) I L) := by
  obtain ⟨hW, hH, hT, hF, hA, hK, hD⟩ := id hI
  obtain ⟨hp0, hdr, hch, hsd⟩ := id hp
  obtain ⟨hc0, hc1⟩ := id hc
  have h49 := WH49 (W := I 149 0) (H := I 149 1) (by omega) (by omega)
  obtain ⟨hcx, hcy⟩ := mcoord hW.1 hc0 hc1
  have m1 := mulB hch (windX_r w)
  have m2 := mulB hch (windY_r w)
  refine Wk.iload (i := 4) (q := 2) (by decide +kernel) rfl rfl ?_
  refine Wk.aload_n (k := 0) (q := 3) (by decide +kernel) rfl rfl rfl ?_
  refine Wk.iload_n (k := 1) (q := 4) (by decide +kernel) rfl rfl rfl ?_
  refine Wk.iload_n (k := 2) (q := 5) (by decide +kernel) rfl rfl rfl ?_
  refine Wk.iload_n (k := 3) (q := 6) (by decide +kernel) rfl rfl rfl ?_
  refine Wk.cVi (q := 9) l_Mod_51 m_Mod_left (by decide +kernel) (fun _ h => h) O_148 rfl (Nat.le_of_ble_eq_true rfl) (Nat.le_of_ble_eq_true rfl) rfl (c_Mod_left hI hp hc (by omega) (by omega)) rfl ?_
  refine Wk.isub (q := 10) (by decide +kernel) rfl ?_
  refine Wk.istore (i := 6) (q := 12) (by decide +kernel) (by decide) rfl (fun _ h => h) rfl ?_
  refine Wk.iload (i := 5) (q := 14) (by decide +kernel) rfl rfl ?_
  refine Wk.aload_n (k := 0) (q := 15) (by decide +kernel) rfl rfl rfl ?_
  refine Wk.iload_n (k := 1) (q := 16) (by decide +kernel) rfl rfl rfl ?_
  refine Wk.iload_n (k := 2) (q := 17) (by decide +kernel) rfl rfl rfl ?_
  refine Wk.iload_n (k := 3) (q := 18) (by decide +kernel) rfl rfl rfl ?_
  refine Wk.cVi (q := 21) l_Mod_55 m_Mod_top (by decide +kernel) (fun _ h => h) O_148 rfl (Nat.le_of_ble_eq_true rfl) (Nat.le_of_ble_eq_true rfl) rfl (c_Mod_top hI hp hc (by omega) (by omega)) rfl ?_
  refine Wk.isub (q := 22) (by decide +kernel) rfl ?_
  refine Wk.istore (i := 7) (q := 24) (by decide +kernel) (by decide) rfl (fun _ h => h) rfl ?_
  refine Wk.iload (i := 6) (q := 26) (by decide +kernel) rfl rfl ?_
  refine Wk.iconst (n := 0) (q := 27) (by decide +kernel) rfl ?_
  refine Wk.aload_n (k := 0) (q := 28) (by decide +kernel) rfl rfl rfl ?_
  refine Wk.getR (r := 149) (q := 31) f_Mod_7 (by decide +kernel) O_148 (by decide) rfl rfl rfl ?_
  refine Wk.iload_n (k := 1) (q := 32) (by decide +kernel) rfl rfl rfl ?_
  refine Wk.iconst (n := 2) (q := 33) (by decide +kernel) rfl ?_
  refine Wk.iadd (q := 34) (by decide +kernel) rfl ?_
  refine Wk.iaload (q := 35) (by decide +kernel) A_149 (by first | omega | exact bi_rng _) (by first | omega | exact bi_rng _) rfl ?_
  refine Wk.iconst (n := 1) (q := 36) (by decide +kernel) rfl ?_
  refine Wk.isub (q := 37) (by decide +kernel) rfl ?_
  refine Wk.cSi (q := 40) l_Mod_36 m_Mod_in (by decide +kernel) (fun _ h => h) (Nat.le_of_ble_eq_true rfl) (Nat.le_of_ble_eq_true rfl) rfl (c_Mod_in (by omega) (by omega) (by omega)) rfl ?_
  refine Wk.ifB_eq (off := (26)) (t := 66) (q := 43) (by decide +kernel) (by decide) rfl (fun hc40 => ?_) (fun hc40 => ?_)
  · refine Wk.iconst (n := 0) (q := 67) (by decide +kernel) rfl ?_
    exact Wk.rZ (by decide +kernel) rfl (by first | omega | decide | exact bi_01 _) (by first | rw [bi_t (by unfold mLO LO; omega)] | rw [bi_f (by unfold mLO LO; omega)])
  · refine Wk.iload (i := 7) (q := 45) (by decide +kernel) rfl rfl ?_
    refine Wk.iconst (n := 0) (q := 46) (by decide +kernel) rfl ?_
    refine Wk.aload_n (k := 0) (q := 47) (by decide +kernel) rfl rfl rfl ?_
    refine Wk.getR (r := 149) (q := 50) f_Mod_7 (by decide +kernel) O_148 (by decide) rfl rfl rfl ?_
    refine Wk.iload_n (k := 1) (q := 51) (by decide +kernel) rfl rfl rfl ?_
    refine Wk.iconst (n := 2) (q := 52) (by decide +kernel) rfl ?_
    refine Wk.iadd (q := 53) (by decide +kernel) rfl ?_
    refine Wk.iaload (q := 54) (by decide +kernel) A_149 (by first | omega | exact bi_rng _) (by first | omega | exact bi_rng _) rfl ?_
    refine Wk.iconst (n := 1) (q := 55) (by decide +kernel) rfl ?_
    refine Wk.isub (q := 56) (by decide +kernel) rfl ?_
    refine Wk.cSi (q := 59) l_Mod_36 m_Mod_in (by decide +kernel) (fun _ h => h) (Nat.le_of_ble_eq_true rfl) (Nat.le_of_ble_eq_true rfl) rfl (c_Mod_in (by omega) (by omega) (by omega)) rfl ?_
    refine Wk.ifB_eq (off := (7)) (t := 66) (q := 62) (by decide +kernel) (by decide) rfl (fun hc59 => ?_) (fun hc59 => ?_)
    · refine Wk.iconst (n := 0) (q := 67) (by decide +kernel) rfl ?_
      exact Wk.rZ (by decide +kernel) rfl (by first | omega | decide | exact bi_01 _) (by first | rw [bi_t (by unfold mLO LO; omega)] | rw [bi_f (by unfold mLO LO; omega)])
    · refine Wk.iconst (n := 1) (q := 63) (by decide +kernel) rfl ?_
      refine Wk.goto (off := (4)) (q := 67) (by decide +kernel) (by decide) ?_
      exact Wk.rZ (by decide +kernel) rfl (by first | omega | decide | exact bi_01 _) (by first | rw [bi_t (by unfold mLO LO; omega)] | rw [bi_f (by unfold mLO LO; omega)])
theorem c_Mod_sweeps {p c x y : Int} (hI : MI0 I) (hp : MP I p) (hc : mC I c) (hx : 0 ≤ x ∧ x ≤ 6) (hy : 0 ≤ y ∧ y ≤ 6) : Wk xs x_Mod_sweeps (d + 3) 0 0 0 [some (vr 148), some (vi p), some (vi c), some (vi x), some (vi y), none, none] [] X2 I L (pI (bi (mSW I p c x y)) I L) := by
  obtain ⟨hW, hH, hT, hF, hA, hK, hD⟩ := id hI
  obtain ⟨hp0, hdr, hch, hsd⟩ := id hp
  obtain ⟨hc0, hc1⟩ := id hc
  have h49 := WH49 (W := I 149 0) (H := I 149 1) (by omega) (by omega)
  obtain ⟨hcx, hcy⟩ := mcoord hW.1 hc0 hc1
  have key : Wk xs x_Mod_sweeps (d + 3) 0 0 6 [some (vr 148), some (vi p), some (vi c), some (vi x), some (vi y), some (vi (bi (∃ w, 0 ≤ w ∧ w < 0 ∧ bt (I 149 3) w = true ∧ mLO I p c w x y))), some (vi 0)] [] X2 I L (pI (bi (mSW I p c x y)) I L) := by
    refine loopI (fun k => Wk xs x_Mod_sweeps (d + 3) 0 0 6 [some (vr 148), some (vi p), some (vi c), some (vi x), some (vi y), some (vi (bi (∃ w, 0 ≤ w ∧ w < k ∧ bt (I 149 3) w = true ∧ mLO I p c w x y))), some (vi k)] [] X2 I L (pI (bi (mSW I p c x y)) I L)) 8 0 (by omega) ?_ ?_
    · refine Wk.iload (i := 6) (q := 8) (by decide +kernel) rfl rfl ?_
      refine Wk.bipush (n := 8) (q := 10) (by decide +kernel) (by decide +kernel) rfl ?_
      refine Wk.icmp_ge (off := (49)) (t := 59) (q := 13) (by decide +kernel) (by decide) rfl (by first | omega | exact bi_rng _) (by first | omega | exact bi_rng _) (fun hc10 => ?_) (fun hc10 => ?_)
      · refine Wk.iload (i := 5) (q := 61) (by decide +kernel) rfl rfl ?_
        exact Wk.rZ (by decide +kernel) rfl (by first | omega | decide | exact bi_01 _) (rfl)
      · omega
    · intro k k0 k1 ih
      refine Wk.iload (i := 6) (q := 8) (by decide +kernel) rfl rfl ?_
      refine Wk.bipush (n := 8) (q := 10) (by decide +kernel) (by decide +kernel) rfl ?_
      refine Wk.icmp_ge (off := (49)) (t := 59) (q := 13) (by decide +kernel) (by decide) rfl (by first | omega | exact bi_rng _) (by first | omega | exact bi_rng _) (fun hc10 => ?_) (fun hc10 => ?_)
      · omega
      · refine Wk.iload (i := 5) (q := 15) (by decide +kernel) rfl rfl ?_
        refine Wk.ifB_ne (off := (31)) (t := 46) (q := 18) (by decide +kernel) (by decide) rfl (fun hc15 => ?_) (fun hc15 => ?_)
        · refine Wk.iconst (n := 1) (q := 47) (by decide +kernel) rfl ?_
          refine Wk.goto (off := (4)) (q := 51) (by decide +kernel) (by decide) ?_
          refine Wk.istore (i := 5) (q := 53) (by decide +kernel) (by decide) rfl (fun _ h => h) rfl ?_
          refine Wk.iinc (i := 6) (n := 1) (q := 56) (by decide +kernel) rfl (by decide) rfl (fun _ h => h) rfl ?_
          refine Wk.goto (off := (-50)) (q := 6) (by decide +kernel) (by decide) ?_
          first
            | (rw [bi_t (by obtain ⟨w, z0, z1, z2⟩ := hc15; exact ⟨w, z0, by omega, z2⟩)] at ih
               exact ih)
            | (rw [bi_t ⟨k, k0, by omega, hc29, hc43⟩] at ih
               exact ih)
            | (rw [bi_f (fun ⟨w, z0, z1, z2, z3⟩ => by
                rcases Classical.em (w = k) with e | e
                · subst e
                  first | exact hc29 z2 | exact hc43 z3
                · exact hc15 ⟨w, z0, by omega, z2, z3⟩)] at ih
               exact ih)
        · refine Wk.aload_n (k := 0) (q := 19) (by decide +kernel) rfl rfl rfl ?_
          refine Wk.getR (r := 149) (q := 22) f_Mod_7 (by decide +kernel) O_148 (by decide) rfl rfl rfl ?_
          refine Wk.iconst (n := 3) (q := 23) (by decide +kernel) rfl ?_
          refine Wk.iaload (q := 24) (by decide +kernel) A_149 (by first | omega | exact bi_rng _) (by first | omega | exact bi_rng _) rfl ?_
          refine Wk.iload (i := 6) (q := 26) (by decide +kernel) rfl rfl ?_
          refine Wk.cSi (q := 29) l_Mod_58 m_Mod_has (by decide +kernel) (fun _ h => h) (Nat.le_of_ble_eq_true rfl) (Nat.le_of_ble_eq_true rfl) rfl (c_Mod_has (by omega) (by omega) (by omega) (by omega)) rfl ?_
          refine Wk.ifB_eq (off := (21)) (t := 50) (q := 32) (by decide +kernel) (by decide) rfl (fun hc29 => ?_) (fun hc29 => ?_)
          · refine Wk.iconst (n := 0) (q := 51) (by decide +kernel) rfl ?_
            refine Wk.istore (i := 5) (q := 53) (by decide +kernel) (by decide) rfl (fun _ h => h) rfl ?_
            refine Wk.iinc (i := 6) (n := 1) (q := 56) (by decide +kernel) rfl (by decide) rfl (fun _ h => h) rfl ?_
            refine Wk.goto (off := (-50)) (q := 6) (by decide +kernel) (by decide) ?_
            first
              | (rw [bi_t (by obtain ⟨w, z0, z1, z2⟩ := hc15; exact ⟨w, z0, by omega, z2⟩)] at ih
                 exact ih)
              | (rw [bi_t ⟨k, k0, by omega, hc29, hc43⟩] at ih
                 exact ih)
              | (rw [bi_f (fun ⟨w, z0, z1, z2, z3⟩ => by
                  rcases Classical.em (w = k) with e | e
                  · subst e
                    first | exact hc29 z2 | exact hc43 z3
                  · exact hc15 ⟨w, z0, by omega, z2, z3⟩)] at ih
                 exact ih)
          · refine Wk.aload_n (k := 0) (q := 33) (by decide +kernel) rfl rfl rfl ?_
            refine Wk.iload_n (k := 1) (q := 34) (by decide +kernel) rfl rfl rfl ?_
            refine Wk.iload_n (k := 2) (q := 35) (by decide +kernel) rfl rfl rfl ?_
            refine Wk.iload (i := 6) (q := 37) (by decide +kernel) rfl rfl ?_
            refine Wk.iload_n (k := 3) (q := 38) (by decide +kernel) rfl rfl rfl ?_
            refine Wk.iload (i := 4) (q := 40) (by decide +kernel) rfl rfl ?_
            refine Wk.cVi (q := 43) l_Mod_61 m_Mod_liesOn (by decide +kernel) (fun _ h => h) O_148 rfl (Nat.le_of_ble_eq_true rfl) (Nat.le_of_ble_eq_true rfl) rfl (c_Mod_liesOn hI hp hc k0 k1 hx hy) rfl ?_
            refine Wk.ifB_eq (off := (7)) (t := 50) (q := 46) (by decide +kernel) (by decide) rfl (fun hc43 => ?_) (fun hc43 => ?_)
            · refine Wk.iconst (n := 0) (q := 51) (by decide +kernel) rfl ?_
              refine Wk.istore (i := 5) (q := 53) (by decide +kernel) (by decide) rfl (fun _ h => h) rfl ?_
              refine Wk.iinc (i := 6) (n := 1) (q := 56) (by decide +kernel) rfl (by decide) rfl (fun _ h => h) rfl ?_
              refine Wk.goto (off := (-50)) (q := 6) (by decide +kernel) (by decide) ?_
              first
                | (rw [bi_t (by obtain ⟨w, z0, z1, z2⟩ := hc15; exact ⟨w, z0, by omega, z2⟩)] at ih
                   exact ih)
                | (rw [bi_t ⟨k, k0, by omega, hc29, hc43⟩] at ih
                   exact ih)
                | (rw [bi_f (fun ⟨w, z0, z1, z2, z3⟩ => by
                    rcases Classical.em (w = k) with e | e
                    · subst e
                      first | exact hc29 z2 | exact hc43 z3
                    · exact hc15 ⟨w, z0, by omega, z2, z3⟩)] at ih
                   exact ih)
            · refine Wk.iconst (n := 1) (q := 47) (by decide +kernel) rfl ?_
              refine Wk.goto (off := (4)) (q := 51) (by decide +kernel) (by decide) ?_
              refine Wk.istore (i := 5) (q := 53) (by decide +kernel) (by decide) rfl (fun _ h => h) rfl ?_
              refine Wk.iinc (i := 6) (n := 1) (q := 56) (by decide +kernel) rfl (by decide) rfl (fun _ h => h) rfl ?_
              refine Wk.goto (off := (-50)) (q := 6) (by decide +kernel) (by decide) ?_
              first
                | (rw [bi_t (by obtain ⟨w, z0, z1, z2⟩ := hc15; exact ⟨w, z0, by omega, z2⟩)] at ih
                   exact ih)
                | (rw [bi_t ⟨k, k0, by omega, hc29, hc43⟩] at ih
                   exact ih)
                | (rw [bi_f (fun ⟨w, z0, z1, z2, z3⟩ => by
                    rcases Classical.em (w = k) with e | e
                    · subst e
                      first | exact hc29 z2 | exact hc43 z3
                    · exact hc15 ⟨w, z0, by omega, z2, z3⟩)] at ih
                   exact ih)
  refine Wk.iconst (n := 0) (q := 1) (by decide +kernel) rfl ?_
  refine Wk.istore (i := 5) (q := 3) (by decide +kernel) (by decide) rfl (fun _ h => h) rfl ?_
  refine Wk.iconst (n := 0) (q := 4) (by decide +kernel) rfl ?_
  refine Wk.istore (i := 6) (q := 6) (by decide +kernel) (by decide) rfl (fun _ h => h) rfl ?_
  rw [bi_f (fun ⟨w, z0, z1, _⟩ => by omega)] at key
  exact key
end MOA
