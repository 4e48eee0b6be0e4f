/-! ALL THAT WAIT COME -/
theorem toAnch_o {I : IM} {k p : Int} {c : Nat} (h : 7 < c ∨ c < 1 ∨ c = 2) : toAnch I k p c = I c := by
  funext b
  unfold toAnch dropW
  rw [iup_other (by omega)]
  simp only [shA]
  rw [if_neg (by omega), iup_other (by omega), iup_other (by omega), iup_other (by omega)]
  unfold cpS
  rw [iup_other (by omega), iup_other (by omega), iup_other (by omega), iup_other (by omega), iup_other (by omega)]
theorem toAnch_15 (I : IM) (k p : Int) : toAnch I k p 1 5 = I 1 5 - 1 := by
  unfold toAnch dropW
  rw [iup_at, iup_ne (by omega), iup_other (by decide), iup_other (by decide)]
  unfold cpS
  rw [iup_other (by decide), iup_other (by decide), iup_other (by decide), iup_other (by decide), iup_other (by decide)]
def fa (Ia : IM) (ch : Int → Int) : Nat → IM
  | 0 => Ia
  | n + 1 => toAnch (fa Ia ch n) 0 (ch n)
theorem fa_step (Ia : IM) (ch : Int → Int) {k : Int} (h : 0 ≤ k) : fa Ia ch (k + 1).toNat = toAnch (fa Ia ch k.toNat) 0 (ch k) := by
  rw [show (k + 1).toNat = k.toNat + 1 by omega]
  show toAnch _ 0 (ch ((k.toNat : Nat) : Int)) = _
  rw [Int.toNat_of_nonneg h]
theorem fa_n (Ia : IM) (ch : Int → Int) : ∀ n : Nat, fa Ia ch n 1 5 = Ia 1 5 - n ∧ fa Ia ch n 1 4 = Ia 1 4 + n ∧ ∀ c, (7 < c ∨ c < 1 ∨ c = 2) → fa Ia ch n c = Ia c
  | 0 => ⟨by simp [fa], by simp [fa], fun _ _ => rfl⟩
  | n + 1 => by
    obtain ⟨h1, h2, h3⟩ := fa_n Ia ch n
    refine ⟨?_, ?_, fun c hc => ?_⟩
    · show toAnch (fa Ia ch n) 0 (ch n) 1 5 = _
      rw [toAnch_15, h1]; omega
    · show toAnch (fa Ia ch n) 0 (ch n) 1 4 = _
      rw [toAnch_14, h2]; omega
    · show toAnch (fa Ia ch n) 0 (ch n) c = _
      rw [toAnch_o hc]; exact h3 c hc
def fm (R : IM) (tr : Int → Int) : Nat → IM
  | 0 => R
  | n + 1 => moo (fm R tr n) n (tr n)
theorem fm_step (R : IM) (tr : Int → Int) {k : Int} (h : 0 ≤ k) : fm R tr (k + 1).toNat = moo (fm R tr k.toNat) k (tr k) := by
  rw [show (k + 1).toNat = k.toNat + 1 by omega]
  show moo _ ((k.toNat : Nat) : Int) (tr ((k.toNat : Nat) : Int)) = _
  rw [Int.toNat_of_nonneg h]
theorem moo_o {I : IM} {k c : Int} {a : Nat} (h : ¬ a = 149) : moo I k c a = I a := by
  unfold moo
  rw [iup_other h, iup_other h]
  funext b
  simp only [mo0, h, false_and, if_false]
theorem fm_n (R : IM) (tr : Int → Int) : ∀ n : Nat, fm R tr n 149 4 = R 149 4 + n ∧ ∀ c, ¬ c = 149 → fm R tr n c = R c
  | 0 => ⟨by simp [fm], fun _ _ => rfl⟩
  | n + 1 => by
    obtain ⟨h1, h2⟩ := fm_n R tr n
    refine ⟨?_, fun c hc => ?_⟩
    · show moo (fm R tr n) n (tr n) 149 4 = _
      rw [moo_4, h1]; omega
    · show moo (fm R tr n) n (tr n) c = _
      rw [moo_o hc]; exact h2 c hc
section FAL
variable {xs : RO} {d : Nat} {I : IM} {L : LM}

theorem c_Sw_fitAll (hI : Cur I) (HH : Hst I) : Wk xs x_Sw_fitAll (d + 11) 0 0 0 [some (vr 0), none, none] [] X2 I L (p2 fun u I' _ => ∃ z, u = some (vi z) ∧ (((I 1 5 = 0 ∨ ¬ Exr (aG I) (aK I) (I 1 5).toNat 0 (fun _ => 0)) ∧ z = -1000000003 ∧ FrS I' I) ∨ (¬ I 1 5 = 0 ∧ ∃ I1, FrS I1 I ∧ Lea (aG I) (aK I) (I 1 5).toNat 0 (I1 124) ∧ ((5 < I 1 4 + I 1 5 ∧ z = -1000000004 ∧ I' = I1) ∨ (¬ 5 < I 1 4 + I 1 5 ∧ z = I 1 5 ∧ ∃ Ia, RemC I1 Ia ∧ I' = fa Ia (I1 124) (I 1 5).toNat))))) := by
  have hc : Cur I := hI
  have hC : CW I := hc.1
  obtain ⟨hW, hH, hT, hF, hA, hB, hD⟩ := id hC.1
  have key : ∀ (I1 Ia : IM) (La : LM), FrS I1 I → Lea (aG I) (aK I) (I 1 5).toNat 0 (I1 124) → ¬ I 1 5 = 0 → ¬ 5 < I 1 4 + I 1 5 → RemC I1 Ia → Ia 124 = I1 124 → Wk xs x_Sw_fitAll (d + 11) 0 0 58 [some (vr 0), some (vi (I 1 5)), some (vi 0)] [] X2 (fa Ia (I1 124) (0 : Int).toNat) La (p2 fun u I' _ => ∃ z, u = some (vi z) ∧ (((I 1 5 = 0 ∨ ¬ Exr (aG I) (aK I) (I 1 5).toNat 0 (fun _ => 0)) ∧ z = -1000000003 ∧ FrS I' I) ∨ (¬ I 1 5 = 0 ∧ ∃ I1, FrS I1 I ∧ Lea (aG I) (aK I) (I 1 5).toNat 0 (I1 124) ∧ ((5 < I 1 4 + I 1 5 ∧ z = -1000000004 ∧ I' = I1) ∨ (¬ 5 < I 1 4 + I 1 5 ∧ z = I 1 5 ∧ ∃ Ia, RemC I1 Ia ∧ I' = fa Ia (I1 124) (I 1 5).toNat))))) := by
    intro I1 Ia La q1 hl hne hfu hRem e124
    have e1 : Ia 1 = I 1 := (hRem.lo (by decide)).trans (q1 1 (by decide) (by decide) (by decide))
    refine loopI (fun k => Wk xs x_Sw_fitAll (d + 11) 0 0 58 [some (vr 0), some (vi (I 1 5)), some (vi k)] [] X2 (fa Ia (I1 124) k.toNat) La (p2 fun u I' _ => ∃ z, u = some (vi z) ∧ (((I 1 5 = 0 ∨ ¬ Exr (aG I) (aK I) (I 1 5).toNat 0 (fun _ => 0)) ∧ z = -1000000003 ∧ FrS I' I) ∨ (¬ I 1 5 = 0 ∧ ∃ I1, FrS I1 I ∧ Lea (aG I) (aK I) (I 1 5).toNat 0 (I1 124) ∧ ((5 < I 1 4 + I 1 5 ∧ z = -1000000004 ∧ I' = I1) ∨ (¬ 5 < I 1 4 + I 1 5 ∧ z = I 1 5 ∧ ∃ Ia, RemC I1 Ia ∧ I' = fa Ia (I1 124) (I 1 5).toNat)))))) (I 1 5) 0 (by omega) ?_ ?_
    · refine Wk.iload_n (k := 2) (q := 59) (by decide +kernel) rfl rfl rfl ?_
      refine Wk.iload_n (k := 1) (q := 60) (by decide +kernel) rfl rfl rfl ?_
      refine Wk.icmp_ge (off := (26)) (t := 86) (q := 63) (by decide +kernel) (by decide) rfl (by first | omega | exact bi_rng _) (by first | omega | exact bi_rng _) (fun hc60 => ?_) (fun hc60 => ?_)
      · refine Wk.iload_n (k := 1) (q := 87) (by decide +kernel) rfl rfl rfl ?_
        exact Wk.riP (by decide +kernel) rfl (⟨_, rfl, Or.inr ⟨hne, I1, q1, hl, Or.inr ⟨hfu, rfl, Ia, hRem, rfl⟩⟩⟩)
      · omega
    · intro k k0 k1 ih
      obtain ⟨f5, f4, fo⟩ := fa_n Ia (I1 124) k.toNat
      rw [e1] at f5 f4
      have hg := Lea_G _ 0 _ hl k (by omega) (by omega)
      have hg1 := hg.1
      have e2 : fa Ia (I1 124) k.toNat 124 = I1 124 := (fo 124 (by omega)).trans e124
      rw [fa_step _ _ k0] at ih
      refine Wk.iload_n (k := 2) (q := 59) (by decide +kernel) rfl rfl rfl ?_
      refine Wk.iload_n (k := 1) (q := 60) (by decide +kernel) rfl rfl rfl ?_
      refine Wk.icmp_ge (off := (26)) (t := 86) (q := 63) (by decide +kernel) (by decide) rfl (by first | omega | exact bi_rng _) (by first | omega | exact bi_rng _) (fun hc60 => ?_) (fun hc60 => ?_)
      · omega
      · refine Wk.aload_n (k := 0) (q := 64) (by decide +kernel) rfl rfl rfl ?_
        refine Wk.getR (r := 1) (q := 67) f_Sw_12 (by decide +kernel) O_0 (by decide) rfl rfl rfl ?_
        refine Wk.iconst (n := 0) (q := 68) (by decide +kernel) rfl ?_
        refine Wk.aload_n (k := 0) (q := 69) (by decide +kernel) rfl rfl rfl ?_
        refine Wk.getR (r := 122) (q := 72) f_Sw_26 (by decide +kernel) O_0 (by decide) rfl rfl rfl ?_
        refine Wk.getR (r := 124) (q := 75) f_Sw_175 (by decide +kernel) O_122 (by decide) rfl rfl rfl ?_
        refine Wk.iload_n (k := 2) (q := 76) (by decide +kernel) rfl rfl rfl ?_
        refine Wk.iaload (q := 77) (by decide +kernel) A_124 (by first | omega | exact bi_rng _) (by first | omega | exact bi_rng _) rfl ?_
        rw [e2]
        refine Wk.cVv (q := 80) l_Sw_218 m_Harb_bringToAnchor (by decide +kernel) (fun _ h => h) O_1 rfl (Nat.le_of_ble_eq_true rfl) (Nat.le_of_ble_eq_true rfl) rfl (c_Harb_bringToAnchor (by omega) (by omega) (by omega) (by omega) hg1) rfl ?_
        refine Wk.iinc (i := 2) (n := 1) (q := 83) (by decide +kernel) rfl (by decide) rfl (fun _ h => h) rfl ?_
        refine Wk.goto (off := (-25)) (q := 58) (by decide +kernel) (by decide) ?_
        exact ih
  refine Wk.aload_n (k := 0) (q := 1) (by decide +kernel) rfl rfl rfl ?_
  refine Wk.getR (r := 1) (q := 4) f_Sw_12 (by decide +kernel) O_0 (by decide) rfl rfl rfl ?_
  refine Wk.getI (z := 5) (q := 7) f_Sw_63 (by decide +kernel) O_1 (by decide) rfl rfl rfl ?_
  refine Wk.istore_n (k := 1) (q := 8) (by decide +kernel) rfl (by decide) rfl (fun _ h => h) rfl ?_
  refine Wk.iload_n (k := 1) (q := 9) (by decide +kernel) rfl rfl rfl ?_
  refine Wk.if_eq (off := (17)) (t := 26) (q := 12) (by decide +kernel) (by decide) rfl (by first | omega | exact bi_rng _) (fun hc9 => ?_) (fun hc9 => ?_)
  · refine Wk.ldc (z := (-1000000003)) (q := 28) k_Sw_217 (by decide +kernel) (by decide +kernel) rfl ?_
    exact Wk.riP (by decide +kernel) rfl (by first | exact ⟨_, rfl, Or.inl ⟨Or.inl hc9, rfl, fun _ _ _ _ => rfl⟩⟩ | exact ⟨_, rfl, Or.inl ⟨Or.inr (hA0 (by omega)), rfl, q1⟩⟩)
  · refine Wk.aload_n (k := 0) (q := 13) (by decide +kernel) rfl rfl rfl ?_
    refine Wk.getR (r := 122) (q := 16) f_Sw_26 (by decide +kernel) O_0 (by decide) rfl rfl rfl ?_
    refine Wk.aload_n (k := 0) (q := 17) (by decide +kernel) rfl rfl rfl ?_
    refine Wk.getR (r := 1) (q := 20) f_Sw_12 (by decide +kernel) O_0 (by decide) rfl rfl rfl ?_
    refine Wk.cV (q := 23) l_Sw_76 m_Sear_settlesAll (by decide +kernel) (fun _ h => h) O_122 rfl (Nat.le_of_ble_eq_true rfl) (Nat.le_of_ble_eq_true rfl) rfl (c_Sear_settlesAll hC) rfl (fun v I1 L1 hP => ?_)
    obtain ⟨hv, q1⟩ := hP
    obtain ⟨z, hz, hz2⟩ : ∃ z : Int, (z = 0 ∨ z = 1) ∧ v = some (vi z) := by
      rcases hv with ⟨rfl, -⟩ | ⟨rfl, -⟩
      · exact ⟨1, Or.inr rfl, rfl⟩
      · exact ⟨0, Or.inl rfl, rfl⟩
    subst hz2
    have hA1 : z = 1 → Lea (aG I) (aK I) (I 1 5).toNat 0 (I1 124) := fun e => by
      rcases hv with ⟨-, hv⟩ | ⟨hv, -⟩
      · exact hv
      · injection hv with hv; have : z = 0 := by injection hv
        omega
    have hA0 : z = 0 → ¬ Exr (aG I) (aK I) (I 1 5).toNat 0 (fun _ => 0) := fun e => by
      rcases hv with ⟨hv, -⟩ | ⟨-, hv⟩
      · injection hv with hv; have : z = 1 := by injection hv
        omega
      · exact hv
    refine Wk.if_ne (off := (6)) (t := 29) (q := 26) (by decide +kernel) (by decide) rfl (by first | omega | exact bi_rng _) (fun hc23 => ?_) (fun hc23 => ?_)
    · have e1 := q1 1 (by decide) (by decide) (by decide)
      have e8 := q1 8 (by decide) (by decide) (by decide)
      refine Wk.aload_n (k := 0) (q := 30) (by decide +kernel) rfl rfl rfl ?_
      refine Wk.getR (r := 1) (q := 33) f_Sw_12 (by decide +kernel) O_0 (by decide) rfl rfl rfl ?_
      refine Wk.getI (z := 4) (q := 36) f_Sw_60 (by decide +kernel) O_1 (by decide) rfl rfl rfl ?_
      rw [e1]
      refine Wk.iload_n (k := 1) (q := 37) (by decide +kernel) rfl rfl rfl ?_
      refine Wk.iadd (q := 38) (by decide +kernel) rfl ?_
      refine Wk.iconst (n := 5) (q := 39) (by decide +kernel) rfl ?_
      refine Wk.icmp_le (off := (6)) (t := 45) (q := 42) (by decide +kernel) (by decide) rfl (by first | omega | exact bi_rng _) (by first | omega | exact bi_rng _) (fun hc39 => ?_) (fun hc39 => ?_)
      · refine Wk.aload_n (k := 0) (q := 46) (by decide +kernel) rfl rfl rfl ?_
        refine Wk.getR (r := 8) (q := 49) f_Sw_19 (by decide +kernel) O_0 (by decide) rfl rfl rfl ?_
        refine Wk.aload_n (k := 0) (q := 50) (by decide +kernel) rfl rfl rfl ?_
        refine Wk.getR (r := 1) (q := 53) f_Sw_12 (by decide +kernel) O_0 (by decide) rfl rfl rfl ?_
        refine Wk.cV (q := 56) l_Sw_197 m_Hist_remember (by decide +kernel) (fun _ h => h) O_8 rfl (Nat.le_of_ble_eq_true rfl) (Nat.le_of_ble_eq_true rfl) rfl (c_Hist_remember (by rw [e8]; exact HH.1) (by rw [e8]; exact HH.2.1)) rfl (fun v0 Ia La hP4 => ?_)
        obtain ⟨rfl, ⟨J, hJ, eA⟩, eL⟩ := hP4
        have hRem : RemC I1 Ia := by rw [eA]; exact RemC.of hJ
        refine Wk.iconst (n := 0) (q := 57) (by decide +kernel) rfl ?_
        refine Wk.istore_n (k := 2) (q := 58) (by decide +kernel) rfl (by decide) rfl (fun _ h => h) rfl ?_
        exact key I1 Ia La q1 (hA1 (by omega)) hc9 (by omega) hRem (hRem.hi (by rw [e8]; exact HH.1) (by omega))
      · refine Wk.ldc (z := (-1000000004)) (q := 44) k_Sw_208 (by decide +kernel) (by decide +kernel) rfl ?_
        exact Wk.riP (by decide +kernel) rfl (⟨_, rfl, Or.inr ⟨hc9, I1, q1, hA1 (by omega), Or.inl ⟨by omega, rfl, rfl⟩⟩⟩)
    · refine Wk.ldc (z := (-1000000003)) (q := 28) k_Sw_217 (by decide +kernel) (by decide +kernel) rfl ?_
      exact Wk.riP (by decide +kernel) rfl (by first | exact ⟨_, rfl, Or.inl ⟨Or.inl hc9, rfl, fun _ _ _ _ => rfl⟩⟩ | exact ⟨_, rfl, Or.inl ⟨Or.inr (hA0 (by omega)), rfl, q1⟩⟩)
theorem c_Mod_fitAll (hM : MW I) (hK0 : 0 ≤ I 148 1) (hK1 : I 148 1 ≤ 16) : Wk xs x_Mod_fitAll (d + 9) 0 0 0 [some (vr 148), none, none] [] X2 I L (p2 fun u I' L' => (∃ z, u = some (vi z) ∧ (((I 149 5 = 0 ∨ ¬ Exr (zG I 0 (fun i => 5 + i)) (zK I (fun i => 5 + i)) (I 149 5).toNat 0 (fun _ => 0)) ∧ z = -1000000003 ∧ Kp I' I) ∨ (¬ I 149 5 = 0 ∧ ∃ I1, Kp I1 I ∧ Lea (zG I 0 (fun i => 5 + i)) (zK I (fun i => 5 + i)) (I 149 5).toNat 0 (I1 153) ∧ ((5 < I 149 4 + I 149 5 ∧ z = -1000000004 ∧ I' = I1) ∨ (¬ 5 < I 149 4 + I 149 5 ∧ z = I 149 5 ∧ I' = iup (fm (remM I1) (I1 153) (I 149 5).toNat) 149 5 0))))) ∧ L' = L) := by
  obtain ⟨hI, hS, hQ⟩ := id hM
  obtain ⟨hW, hH, hT, hF, hA, hK, hD⟩ := id hI
  have h49 := WH49 (W := I 149 0) (H := I 149 1) (by omega) (by omega)
  have hRl : ∀ b, b < 90 → remM I 149 b = I 149 b := fun b hb => by
    show (if 149 = 149 then remW (I 148 1) (I 149) b else _) = _
    rw [if_pos rfl]
    exact remW_lo (by omega) (Or.inl hb)
  have key : ∀ (I1 : IM), Kp I1 I → Lea (zG I 0 (fun i => 5 + i)) (zK I (fun i => 5 + i)) (I 149 5).toNat 0 (I1 153) → ¬ I 149 5 = 0 → ¬ 5 < I 149 4 + I 149 5 → Wk xs x_Mod_fitAll (d + 9) 0 0 52 [some (vr 148), some (vi (I 149 5)), some (vi 0)] [] X2 (fm (remM I1) (I1 153) (0 : Int).toNat) L (p2 fun u I' L' => (∃ z, u = some (vi z) ∧ (((I 149 5 = 0 ∨ ¬ Exr (zG I 0 (fun i => 5 + i)) (zK I (fun i => 5 + i)) (I 149 5).toNat 0 (fun _ => 0)) ∧ z = -1000000003 ∧ Kp I' I) ∨ (¬ I 149 5 = 0 ∧ ∃ I1, Kp I1 I ∧ Lea (zG I 0 (fun i => 5 + i)) (zK I (fun i => 5 + i)) (I 149 5).toNat 0 (I1 153) ∧ ((5 < I 149 4 + I 149 5 ∧ z = -1000000004 ∧ I' = I1) ∨ (¬ 5 < I 149 4 + I 149 5 ∧ z = I 149 5 ∧ I' = iup (fm (remM I1) (I1 153) (I 149 5).toNat) 149 5 0))))) ∧ L' = L) := by
    intro I1 q1 hl hne hfu
    have ew := q1.w
    have ek : I1 148 1 = I 148 1 := q1 148 1 (by decide) (by decide) (by decide) (by decide)
    have e4 : remM I1 149 4 = I 149 4 := by rw [remM_lo (by rw [ek]; omega) (Or.inl (by decide)), ew]
    refine loopI (fun k => Wk xs x_Mod_fitAll (d + 9) 0 0 52 [some (vr 148), some (vi (I 149 5)), some (vi k)] [] X2 (fm (remM I1) (I1 153) k.toNat) L (p2 fun u I' L' => (∃ z, u = some (vi z) ∧ (((I 149 5 = 0 ∨ ¬ Exr (zG I 0 (fun i => 5 + i)) (zK I (fun i => 5 + i)) (I 149 5).toNat 0 (fun _ => 0)) ∧ z = -1000000003 ∧ Kp I' I) ∨ (¬ I 149 5 = 0 ∧ ∃ I1, Kp I1 I ∧ Lea (zG I 0 (fun i => 5 + i)) (zK I (fun i => 5 + i)) (I 149 5).toNat 0 (I1 153) ∧ ((5 < I 149 4 + I 149 5 ∧ z = -1000000004 ∧ I' = I1) ∨ (¬ 5 < I 149 4 + I 149 5 ∧ z = I 149 5 ∧ I' = iup (fm (remM I1) (I1 153) (I 149 5).toNat) 149 5 0))))) ∧ L' = L)) (I 149 5) 0 (by omega) ?_ ?_
    · refine Wk.iload_n (k := 2) (q := 53) (by decide +kernel) rfl rfl rfl ?_
      refine Wk.iload_n (k := 1) (q := 54) (by decide +kernel) rfl rfl rfl ?_
      refine Wk.icmp_ge (off := (20)) (t := 74) (q := 57) (by decide +kernel) (by decide) rfl (by first | omega | exact bi_rng _) (by first | omega | exact bi_rng _) (fun hc54 => ?_) (fun hc54 => ?_)
      · refine Wk.aload_n (k := 0) (q := 75) (by decide +kernel) rfl rfl rfl ?_
        refine Wk.getR (r := 149) (q := 78) f_Mod_7 (by decide +kernel) O_148 (by decide) rfl rfl rfl ?_
        refine Wk.iconst (n := 5) (q := 79) (by decide +kernel) rfl ?_
        refine Wk.iconst (n := 0) (q := 80) (by decide +kernel) rfl ?_
        refine Wk.iastore (q := 81) (by decide +kernel) A_149 (by first | omega | exact bi_rng _) (by first | omega | exact bi_rng _) rfl ?_
        refine Wk.iload_n (k := 1) (q := 82) (by decide +kernel) rfl rfl rfl ?_
        exact Wk.riP (by decide +kernel) rfl (⟨⟨_, rfl, Or.inr ⟨hne, I1, q1, hl, Or.inr ⟨hfu, rfl, rfl⟩⟩⟩, rfl⟩)
      · omega
    · intro k k0 k1 ih
      obtain ⟨f4, fo⟩ := fm_n (remM I1) (I1 153) k.toNat
      rw [e4] at f4
      have e2 : fm (remM I1) (I1 153) k.toNat 153 = I1 153 := (fo 153 (by decide)).trans (remM_o (by decide) (by decide))
      rw [fm_step _ _ k0] at ih
      refine Wk.iload_n (k := 2) (q := 53) (by decide +kernel) rfl rfl rfl ?_
      refine Wk.iload_n (k := 1) (q := 54) (by decide +kernel) rfl rfl rfl ?_
      refine Wk.icmp_ge (off := (20)) (t := 74) (q := 57) (by decide +kernel) (by decide) rfl (by first | omega | exact bi_rng _) (by first | omega | exact bi_rng _) (fun hc54 => ?_) (fun hc54 => ?_)
      · omega
      · refine Wk.aload_n (k := 0) (q := 58) (by decide +kernel) rfl rfl rfl ?_
        refine Wk.iload_n (k := 2) (q := 59) (by decide +kernel) rfl rfl rfl ?_
        refine Wk.aload_n (k := 0) (q := 60) (by decide +kernel) rfl rfl rfl ?_
        refine Wk.getR (r := 153) (q := 63) f_Mod_22 (by decide +kernel) O_148 (by decide) rfl rfl rfl ?_
        refine Wk.iload_n (k := 2) (q := 64) (by decide +kernel) rfl rfl rfl ?_
        refine Wk.iaload (q := 65) (by decide +kernel) A_153 (by first | omega | exact bi_rng _) (by first | omega | exact bi_rng _) rfl ?_
        rw [e2]
        refine Wk.cVv (q := 68) l_Mod_195 m_Mod_moor (by decide +kernel) (fun _ h => h) O_148 rfl (Nat.le_of_ble_eq_true rfl) (Nat.le_of_ble_eq_true rfl) rfl (c_Mod_moor k0 (by omega) (by omega) (by omega)) rfl ?_
        refine Wk.iinc (i := 2) (n := 1) (q := 71) (by decide +kernel) rfl (by decide) rfl (fun _ h => h) rfl ?_
        refine Wk.goto (off := (-19)) (q := 52) (by decide +kernel) (by decide) ?_
        exact ih
  refine Wk.aload_n (k := 0) (q := 1) (by decide +kernel) rfl rfl rfl ?_
  refine Wk.getR (r := 149) (q := 4) f_Mod_7 (by decide +kernel) O_148 (by decide) rfl rfl rfl ?_
  refine Wk.iconst (n := 5) (q := 5) (by decide +kernel) rfl ?_
  refine Wk.iaload (q := 6) (by decide +kernel) A_149 (by first | omega | exact bi_rng _) (by first | omega | exact bi_rng _) rfl ?_
  refine Wk.if_eq (off := (10)) (t := 16) (q := 9) (by decide +kernel) (by decide) rfl (by first | omega | exact bi_rng _) (fun hc6 => ?_) (fun hc6 => ?_)
  · refine Wk.ldc (z := (-1000000003)) (q := 18) k_Mod_202 (by decide +kernel) (by decide +kernel) rfl ?_
    exact Wk.riP (by decide +kernel) rfl (by first | exact ⟨⟨_, rfl, Or.inl ⟨Or.inl hc6, rfl, Kp.refl _⟩⟩, rfl⟩ | exact ⟨⟨_, rfl, Or.inl ⟨Or.inr (hA0 (by omega)), rfl, q1⟩⟩, rfl⟩)
  · refine Wk.aload_n (k := 0) (q := 10) (by decide +kernel) rfl rfl rfl ?_
    refine Wk.cV (q := 13) l_Mod_140 m_Mod_placesForAll (by decide +kernel) (fun _ h => h) O_148 rfl (Nat.le_of_ble_eq_true rfl) (Nat.le_of_ble_eq_true rfl) rfl (c_Mod_placesForAll hM) rfl (fun v I1 L1 hP => ?_)
    obtain ⟨hv, q1, eL1⟩ := hP
    rw [eL1]
    obtain ⟨z, hz, hz2⟩ : ∃ z : Int, (z = 0 ∨ z = 1) ∧ v = some (vi z) := by
      rcases hv with ⟨rfl, -⟩ | ⟨rfl, -⟩
      · exact ⟨1, Or.inr rfl, rfl⟩
      · exact ⟨0, Or.inl rfl, rfl⟩
    subst hz2
    have hA1 : z = 1 → Lea (zG I 0 (fun i => 5 + i)) (zK I (fun i => 5 + i)) (I 149 5).toNat 0 (I1 153) := fun e => by
      rcases hv with ⟨-, hv⟩ | ⟨hv, -⟩
      · exact hv
      · injection hv with hv; have : z = 0 := by injection hv
        omega
    have hA0 : z = 0 → ¬ Exr (zG I 0 (fun i => 5 + i)) (zK I (fun i => 5 + i)) (I 149 5).toNat 0 (fun _ => 0) := fun e => by
      rcases hv with ⟨hv, -⟩ | ⟨-, hv⟩
      · injection hv with hv; have : z = 1 := by injection hv
        omega
      · exact hv
    refine Wk.if_ne (off := (6)) (t := 19) (q := 16) (by decide +kernel) (by decide) rfl (by first | omega | exact bi_rng _) (fun hc13 => ?_) (fun hc13 => ?_)
    · have ew := q1.w
      have ek : I1 148 1 = I 148 1 := q1 148 1 (by decide) (by decide) (by decide) (by decide)
      have e5 : remM I1 149 5 = I 149 5 := by rw [remM_lo (by rw [ek]; omega) (Or.inl (by decide)), ew]
      refine Wk.aload_n (k := 0) (q := 20) (by decide +kernel) rfl rfl rfl ?_
      refine Wk.getR (r := 149) (q := 23) f_Mod_7 (by decide +kernel) O_148 (by decide) rfl rfl rfl ?_
      refine Wk.iconst (n := 4) (q := 24) (by decide +kernel) rfl ?_
      refine Wk.iaload (q := 25) (by decide +kernel) A_149 (by first | omega | exact bi_rng _) (by first | omega | exact bi_rng _) rfl ?_
      rw [ew]
      refine Wk.aload_n (k := 0) (q := 26) (by decide +kernel) rfl rfl rfl ?_
      refine Wk.getR (r := 149) (q := 29) f_Mod_7 (by decide +kernel) O_148 (by decide) rfl rfl rfl ?_
      refine Wk.iconst (n := 5) (q := 30) (by decide +kernel) rfl ?_
      refine Wk.iaload (q := 31) (by decide +kernel) A_149 (by first | omega | exact bi_rng _) (by first | omega | exact bi_rng _) rfl ?_
      rw [ew]
      refine Wk.iadd (q := 32) (by decide +kernel) rfl ?_
      refine Wk.iconst (n := 5) (q := 33) (by decide +kernel) rfl ?_
      refine Wk.icmp_le (off := (6)) (t := 39) (q := 36) (by decide +kernel) (by decide) rfl (by first | omega | exact bi_rng _) (by first | omega | exact bi_rng _) (fun hc33 => ?_) (fun hc33 => ?_)
      · refine Wk.aload_n (k := 0) (q := 40) (by decide +kernel) rfl rfl rfl ?_
        refine Wk.cVv (q := 43) l_Mod_188 m_Mod_remember (by decide +kernel) (fun _ h => h) O_148 rfl (Nat.le_of_ble_eq_true rfl) (Nat.le_of_ble_eq_true rfl) rfl (c_Mod_remember (by rw [ek]; exact hK0) (by rw [ek]; exact hK1)) rfl ?_
        refine Wk.aload_n (k := 0) (q := 44) (by decide +kernel) rfl rfl rfl ?_
        refine Wk.getR (r := 149) (q := 47) f_Mod_7 (by decide +kernel) O_148 (by decide) rfl rfl rfl ?_
        refine Wk.iconst (n := 5) (q := 48) (by decide +kernel) rfl ?_
        refine Wk.iaload (q := 49) (by decide +kernel) A_149 (by first | omega | exact bi_rng _) (by first | omega | exact bi_rng _) rfl ?_
        rw [e5]
        refine Wk.istore_n (k := 1) (q := 50) (by decide +kernel) rfl (by decide) rfl (fun _ h => h) rfl ?_
        refine Wk.iconst (n := 0) (q := 51) (by decide +kernel) rfl ?_
        refine Wk.istore_n (k := 2) (q := 52) (by decide +kernel) rfl (by decide) rfl (fun _ h => h) rfl ?_
        exact key I1 q1 (hA1 (by omega)) hc6 (by omega)
      · refine Wk.ldc (z := (-1000000004)) (q := 38) k_Mod_194 (by decide +kernel) (by decide +kernel) rfl ?_
        exact Wk.riP (by decide +kernel) rfl (⟨⟨_, rfl, Or.inr ⟨hc6, I1, q1, hA1 (by omega), Or.inl ⟨by omega, rfl, rfl⟩⟩⟩, rfl⟩)
    · refine Wk.ldc (z := (-1000000003)) (q := 18) k_Mod_202 (by decide +kernel) (by decide +kernel) rfl ?_
      exact Wk.riP (by decide +kernel) rfl (by first | exact ⟨⟨_, rfl, Or.inl ⟨Or.inl hc6, rfl, Kp.refl _⟩⟩, rfl⟩ | exact ⟨⟨_, rfl, Or.inl ⟨Or.inr (hA0 (by omega)), rfl, q1⟩⟩, rfl⟩)
end FAL
