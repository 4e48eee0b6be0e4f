/-! SHIPS ARE MOVED -/
def sa (Ia : IM) (row ch : Int → Int) : Nat → IM
  | 0 => Ia
  | n + 1 => iup (iup (sa Ia row ch n) 6 (row (n + 1)) (ch (n + 1) % 8)) 7 (row (n + 1)) (ch (n + 1) / 8)
theorem sa_step (Ia : IM) (row ch : Int → Int) {i : Int} (h : 1 ≤ i) : sa Ia row ch i.toNat = iup (iup (sa Ia row ch (i - 1).toNat) 6 (row i) (ch i % 8)) 7 (row i) (ch i / 8) := by
  obtain ⟨n, hn⟩ : ∃ n : Nat, i = (n : Int) + 1 := ⟨(i - 1).toNat, by omega⟩
  subst hn
  rw [show ((n : Int) + 1).toNat = n + 1 by omega, show ((n : Int) + 1 - 1).toNat = n by omega]
  rfl
theorem sa_o (Ia : IM) (row ch : Int → Int) {c : Nat} (h6 : ¬ c = 6) (h7 : ¬ c = 7) : ∀ n : Nat, sa Ia row ch n c = Ia c
  | 0 => rfl
  | n + 1 => by
    show iup (iup (sa Ia row ch n) 6 _ _) 7 _ _ c = _
    rw [iup_other h7, iup_other h6]
    exact sa_o Ia row ch h6 h7 n
noncomputable def sf (R : IM) (set : Int) (tr : Int → Int) : Nat → IM
  | 0 => R
  | a + 1 => if bt set a = true then iup (sf R set tr a) 149 (55 + 4 * a + 3) (tr (1 + nbit set a)) else sf R set tr a
theorem sf_t {R : IM} {set : Int} {tr : Int → Int} {a : Int} (h : 0 ≤ a) (hb : bt set a = true) : sf R set tr (a + 1).toNat = iup (sf R set tr a.toNat) 149 (55 + 4 * a + 3) (tr (1 + nbit set a)) := by
  obtain ⟨n, hn⟩ : ∃ n : Nat, a = (n : Int) := ⟨a.toNat, by omega⟩
  subst hn
  rw [show ((n : Int) + 1).toNat = n + 1 by omega, show ((n : Int)).toNat = n by omega]
  show (if bt set n = true then _ else _) = _
  rw [if_pos hb]
theorem sf_f {R : IM} {set : Int} {tr : Int → Int} {a : Int} (h : 0 ≤ a) (hb : ¬ bt set a = true) : sf R set tr (a + 1).toNat = sf R set tr a.toNat := by
  obtain ⟨n, hn⟩ : ∃ n : Nat, a = (n : Int) := ⟨a.toNat, by omega⟩
  subst hn
  rw [show ((n : Int) + 1).toNat = n + 1 by omega, show ((n : Int)).toNat = n by omega]
  show (if bt set n = true then _ else _) = _
  rw [if_neg hb]
theorem sf_o (R : IM) (set : Int) (tr : Int → Int) : ∀ n : Nat, (∀ c, ¬ c = 149 → sf R set tr n c = R c) ∧ ∀ b, b < 55 → sf R set tr n 149 b = R 149 b
  | 0 => ⟨fun _ _ => rfl, fun _ _ => rfl⟩
  | n + 1 => by
    obtain ⟨h1, h2⟩ := sf_o R set tr n
    by_cases hb : bt set n = true
    · have e : sf R set tr (n + 1) = iup (sf R set tr n) 149 (55 + 4 * (n : Int) + 3) (tr (1 + nbit set n)) := by
        show (if bt set n = true then _ else _) = _
        rw [if_pos hb]
      rw [e]
      exact ⟨fun c hc => by rw [iup_other hc]; exact h1 c hc, fun b hb => by rw [iup_ne (by omega)]; exact h2 b hb⟩
    · have e : sf R set tr (n + 1) = sf R set tr n := by
        show (if bt set n = true then _ else _) = _
        rw [if_neg hb]
      rw [e]
      exact ⟨h1, h2⟩
section SHF
variable {xs : RO} {d : Nat} {I : IM} {L : LM}

theorem c_Sw_shift {k : Int} (hk : -2147483648 ≤ k ∧ k ≤ 2147483647) (hI : Cur I) (HH : Hst I) : Wk xs x_Sw_shift (d + 12) 0 0 0 [some (vr 0), some (vi k), none] [] X2 I L (p2 fun u I' _ => ∃ z, u = some (vi z) ∧ ((¬ (0 ≤ k ∧ k < I 1 5) ∧ z = -1000000001 ∧ I' = I) ∨ ((0 ≤ k ∧ k < I 1 5) ∧ ((MvNone I k ∧ z = -1000000003 ∧ FrS I' I) ∨ ∃ I1 set R, FrS I1 I ∧ MvFound I k I1 set R ∧ ((¬ I 1 4 < 5 ∧ z = -1000000004 ∧ I' = I1) ∨ (I 1 4 < 5 ∧ z = nbit set 5 ∧ ∃ Ia, RemC I1 Ia ∧ I' = toAnch (sa Ia (I1 123) (I1 124) (nbit set 5).toNat) k (I1 124 0))))))) := by
  have hc : Cur I := hI
  have hC : CW I := hc.1
  obtain ⟨hW, hH, hT, hF, hA, hB, hD⟩ := id hC.1
  have key : ∀ (I1 Ia : IM) (La : LM) (set : Int) (R : Int → Int), (0 ≤ k ∧ k < I 1 5) → FrS I1 I → MvFound I k I1 set R → I 1 4 < 5 → RemC I1 Ia → (∀ c, 122 ≤ c → Ia c = I1 c) → Wk xs x_Sw_shift (d + 12) 0 0 59 [some (vr 0), some (vi k), some (vi 1)] [] X2 (sa Ia (I1 123) (I1 124) ((1 : Int) - 1).toNat) La (p2 fun u I' _ => ∃ z, u = some (vi z) ∧ ((¬ (0 ≤ k ∧ k < I 1 5) ∧ z = -1000000001 ∧ I' = I) ∨ ((0 ≤ k ∧ k < I 1 5) ∧ ((MvNone I k ∧ z = -1000000003 ∧ FrS I' I) ∨ ∃ I1 set R, FrS I1 I ∧ MvFound I k I1 set R ∧ ((¬ I 1 4 < 5 ∧ z = -1000000004 ∧ I' = I1) ∨ (I 1 4 < 5 ∧ z = nbit set 5 ∧ ∃ Ia, RemC I1 Ia ∧ I' = toAnch (sa Ia (I1 123) (I1 124) (nbit set 5).toNat) k (I1 124 0))))))) := by
    intro I1 Ia La set R hk8 q1 hm h5 hRem ehi
    have hnb := nbit_nn set
    obtain ⟨m1, m2, m3, m4, m5, m6, m7, m8⟩ := id hm
    have hp5 : 2 ^ (I 1 4).toNat ≤ 2 ^ 5 := Nat.pow_le_pow_right (by decide) (by omega)
    have e1 : Ia 1 = I 1 := (hRem.lo (by decide)).trans (q1 1 (by decide) (by decide) (by decide))
    have s122 : ∀ n, sa Ia (I1 123) (I1 124) n 122 = I1 122 := fun n => (sa_o _ _ _ (by decide) (by decide) n).trans (ehi 122 (by omega))
    have s123 : ∀ n, sa Ia (I1 123) (I1 124) n 123 = I1 123 := fun n => (sa_o _ _ _ (by decide) (by decide) n).trans (ehi 123 (by omega))
    have s124 : ∀ n, sa Ia (I1 123) (I1 124) n 124 = I1 124 := fun n => (sa_o _ _ _ (by decide) (by decide) n).trans (ehi 124 (by omega))
    have s1 : ∀ n, sa Ia (I1 123) (I1 124) n 1 = I 1 := fun n => (sa_o _ _ _ (by decide) (by decide) n).trans e1
    have hg0 := (Lea_G _ 0 _ m4 0 (by omega) (by omega)).1
    refine loopI (fun i => Wk xs x_Sw_shift (d + 12) 0 0 59 [some (vr 0), some (vi k), some (vi i)] [] X2 (sa Ia (I1 123) (I1 124) (i - 1).toNat) La (p2 fun u I' _ => ∃ z, u = some (vi z) ∧ ((¬ (0 ≤ k ∧ k < I 1 5) ∧ z = -1000000001 ∧ I' = I) ∨ ((0 ≤ k ∧ k < I 1 5) ∧ ((MvNone I k ∧ z = -1000000003 ∧ FrS I' I) ∨ ∃ I1 set R, FrS I1 I ∧ MvFound I k I1 set R ∧ ((¬ I 1 4 < 5 ∧ z = -1000000004 ∧ I' = I1) ∨ (I 1 4 < 5 ∧ z = nbit set 5 ∧ ∃ Ia, RemC I1 Ia ∧ I' = toAnch (sa Ia (I1 123) (I1 124) (nbit set 5).toNat) k (I1 124 0)))))))) (nbit set 5 + 1) 1 (by omega) ?_ ?_
    · rw [show nbit set 5 + 1 - 1 = nbit set 5 by omega]
      refine Wk.iload_n (k := 2) (q := 60) (by decide +kernel) rfl rfl rfl ?_
      refine Wk.aload_n (k := 0) (q := 61) (by decide +kernel) rfl rfl rfl ?_
      refine Wk.getR (r := 122) (q := 64) f_Sw_26 (by decide +kernel) O_0 (by decide) rfl rfl rfl ?_
      refine Wk.getI (z := 2) (q := 67) f_Sw_221 (by decide +kernel) O_122 (by decide) rfl rfl rfl ?_
      rw [s122, m6]
      refine Wk.icmp_ge (off := (34)) (t := 101) (q := 70) (by decide +kernel) (by decide) rfl (by first | omega | exact bi_rng _) (by first | omega | exact bi_rng _) (fun hc67 => ?_) (fun hc67 => ?_)
      · refine Wk.aload_n (k := 0) (q := 102) (by decide +kernel) rfl rfl rfl ?_
        refine Wk.getR (r := 1) (q := 105) f_Sw_12 (by decide +kernel) O_0 (by decide) rfl rfl rfl ?_
        refine Wk.iload_n (k := 1) (q := 106) (by decide +kernel) rfl rfl rfl ?_
        refine Wk.aload_n (k := 0) (q := 107) (by decide +kernel) rfl rfl rfl ?_
        refine Wk.getR (r := 122) (q := 110) f_Sw_26 (by decide +kernel) O_0 (by decide) rfl rfl rfl ?_
        refine Wk.getR (r := 124) (q := 113) f_Sw_175 (by decide +kernel) O_122 (by decide) rfl rfl rfl ?_
        refine Wk.iconst (n := 0) (q := 114) (by decide +kernel) rfl ?_
        refine Wk.iaload (q := 115) (by decide +kernel) A_124 (by first | omega | exact bi_rng _) (by first | omega | exact bi_rng _) rfl ?_
        rw [s124]
        refine Wk.cVv (q := 118) l_Sw_218 m_Harb_bringToAnchor (by decide +kernel) (fun _ h => h) O_1 rfl (Nat.le_of_ble_eq_true rfl) (Nat.le_of_ble_eq_true rfl) rfl (c_Harb_bringToAnchor hk8.1 (by rw [s1]; exact hk8.2) (by rw [s1]; omega) (by rw [s1]; omega) hg0) rfl ?_
        refine Wk.aload_n (k := 0) (q := 119) (by decide +kernel) rfl rfl rfl ?_
        refine Wk.getR (r := 122) (q := 122) f_Sw_26 (by decide +kernel) O_0 (by decide) rfl rfl rfl ?_
        refine Wk.getI (z := 3) (q := 125) f_Sw_182 (by decide +kernel) O_122 (by decide) rfl rfl rfl ?_
        rw [toAnch_o (by omega), s122, m5]
        refine Wk.cSi (q := 128) l_Sw_185 m_Integer_bitCount (by decide +kernel) (fun _ h => h) (Nat.le_of_ble_eq_true rfl) (Nat.le_of_ble_eq_true rfl) rfl (c_Integer_bitCount (by omega) (by omega)) rfl ?_
        exact Wk.riP (by decide +kernel) rfl (⟨_, rfl, Or.inr ⟨hk8, Or.inr ⟨I1, set, R, q1, hm, Or.inr ⟨h5, rfl, Ia, hRem, rfl⟩⟩⟩⟩)
      · omega
    · intro i i0 i1 ih
      have hg := (Lea_G _ 0 _ m4 i (by omega) (by omega)).1
      have hrow := m7 i (by omega) (by omega)
      have hslot := (m3.2.1 i i0 (by omega)).1
      rw [show i + 1 - 1 = i by omega, sa_step _ _ _ i0] at ih
      refine Wk.iload_n (k := 2) (q := 60) (by decide +kernel) rfl rfl rfl ?_
      refine Wk.aload_n (k := 0) (q := 61) (by decide +kernel) rfl rfl rfl ?_
      refine Wk.getR (r := 122) (q := 64) f_Sw_26 (by decide +kernel) O_0 (by decide) rfl rfl rfl ?_
      refine Wk.getI (z := 2) (q := 67) f_Sw_221 (by decide +kernel) O_122 (by decide) rfl rfl rfl ?_
      rw [s122, m6]
      refine Wk.icmp_ge (off := (34)) (t := 101) (q := 70) (by decide +kernel) (by decide) rfl (by first | omega | exact bi_rng _) (by first | omega | exact bi_rng _) (fun hc67 => ?_) (fun hc67 => ?_)
      · omega
      · refine Wk.aload_n (k := 0) (q := 71) (by decide +kernel) rfl rfl rfl ?_
        refine Wk.getR (r := 1) (q := 74) f_Sw_12 (by decide +kernel) O_0 (by decide) rfl rfl rfl ?_
        refine Wk.aload_n (k := 0) (q := 75) (by decide +kernel) rfl rfl rfl ?_
        refine Wk.getR (r := 122) (q := 78) f_Sw_26 (by decide +kernel) O_0 (by decide) rfl rfl rfl ?_
        refine Wk.getR (r := 123) (q := 81) f_Sw_224 (by decide +kernel) O_122 (by decide) rfl rfl rfl ?_
        refine Wk.iload_n (k := 2) (q := 82) (by decide +kernel) rfl rfl rfl ?_
        refine Wk.iaload (q := 83) (by decide +kernel) A_123 (by first | omega | exact bi_rng _) (by first | omega | exact bi_rng _) rfl ?_
        rw [s123]
        refine Wk.aload_n (k := 0) (q := 84) (by decide +kernel) rfl rfl rfl ?_
        refine Wk.getR (r := 122) (q := 87) f_Sw_26 (by decide +kernel) O_0 (by decide) rfl rfl rfl ?_
        refine Wk.getR (r := 124) (q := 90) f_Sw_175 (by decide +kernel) O_122 (by decide) rfl rfl rfl ?_
        refine Wk.iload_n (k := 2) (q := 91) (by decide +kernel) rfl rfl rfl ?_
        refine Wk.iaload (q := 92) (by decide +kernel) A_124 (by first | omega | exact bi_rng _) (by first | omega | exact bi_rng _) rfl ?_
        rw [s124]
        refine Wk.cVv (q := 95) l_Sw_227 m_Harb_putAt (by decide +kernel) (fun _ h => h) O_1 rfl (Nat.le_of_ble_eq_true rfl) (Nat.le_of_ble_eq_true rfl) rfl (c_Harb_putAt (by rw [hrow]; omega) hg) rfl ?_
        refine Wk.iinc (i := 2) (n := 1) (q := 98) (by decide +kernel) rfl (by decide) rfl (fun _ h => h) rfl ?_
        refine Wk.goto (off := (-39)) (q := 59) (by decide +kernel) (by decide) ?_
        exact ih
  refine Wk.aload_n (k := 0) (q := 1) (by decide +kernel) rfl rfl rfl ?_
  refine Wk.getR (r := 1) (q := 4) f_Sw_12 (by decide +kernel) O_0 (by decide) rfl rfl rfl ?_
  refine Wk.iload_n (k := 1) (q := 5) (by decide +kernel) rfl rfl rfl ?_
  refine Wk.cVi (q := 8) l_Sw_162 m_Harb_hasWaiting (by decide +kernel) (fun _ h => h) O_1 rfl (Nat.le_of_ble_eq_true rfl) (Nat.le_of_ble_eq_true rfl) rfl (c_Harb_hasWaiting hk hB) rfl ?_
  refine Wk.ifB_ne (off := (6)) (t := 14) (q := 11) (by decide +kernel) (by decide) rfl (fun hc8 => ?_) (fun hc8 => ?_)
  · refine Wk.aload_n (k := 0) (q := 15) (by decide +kernel) rfl rfl rfl ?_
    refine Wk.getR (r := 122) (q := 18) f_Sw_26 (by decide +kernel) O_0 (by decide) rfl rfl rfl ?_
    refine Wk.aload_n (k := 0) (q := 19) (by decide +kernel) rfl rfl rfl ?_
    refine Wk.getR (r := 1) (q := 22) f_Sw_12 (by decide +kernel) O_0 (by decide) rfl rfl rfl ?_
    refine Wk.iload_n (k := 1) (q := 23) (by decide +kernel) rfl rfl rfl ?_
    refine Wk.cV (q := 26) l_Sw_178 m_Sear_settlesByMoves (by decide +kernel) (fun _ h => h) O_122 rfl (Nat.le_of_ble_eq_true rfl) (Nat.le_of_ble_eq_true rfl) rfl (c_Sear_settlesByMoves hc8.1 hc8.2 hC) rfl (fun v I1 L1 hP => ?_)
    obtain ⟨hv, q1⟩ := hP
    have e1 := q1 1 (by decide) (by decide) (by decide)
    have e8 := q1 8 (by decide) (by decide) (by decide)
    obtain ⟨z, hz, hz2⟩ : ∃ z : Int, (z = 0 ∨ z = 1) ∧ v = some (vi z) := by
      rcases hv with ⟨rfl, -⟩ | ⟨rfl, -⟩
      · exact ⟨1, Or.inr rfl, rfl⟩
      · exact ⟨0, Or.inl rfl, rfl⟩
    subst hz2
    have hM1 : z = 1 → ∃ set R, MvFound I k I1 set R := fun e => by
      rcases hv with ⟨-, hv⟩ | ⟨hv, -⟩
      · exact hv
      · injection hv with hv; have : z = 0 := by injection hv
        omega
    have hM0 : z = 0 → MvNone I k := fun e => by
      rcases hv with ⟨hv, -⟩ | ⟨-, hv⟩
      · injection hv with hv; have : z = 1 := by injection hv
        omega
      · exact hv
    refine Wk.if_ne (off := (6)) (t := 32) (q := 29) (by decide +kernel) (by decide) rfl (by first | omega | exact bi_rng _) (fun hc26 => ?_) (fun hc26 => ?_)
    · refine Wk.aload_n (k := 0) (q := 33) (by decide +kernel) rfl rfl rfl ?_
      refine Wk.getR (r := 1) (q := 36) f_Sw_12 (by decide +kernel) O_0 (by decide) rfl rfl rfl ?_
      refine Wk.getI (z := 4) (q := 39) f_Sw_60 (by decide +kernel) O_1 (by decide) rfl rfl rfl ?_
      rw [e1]
      refine Wk.iconst (n := 5) (q := 40) (by decide +kernel) rfl ?_
      refine Wk.icmp_lt (off := (6)) (t := 46) (q := 43) (by decide +kernel) (by decide) rfl (by first | omega | exact bi_rng _) (by first | omega | exact bi_rng _) (fun hc40 => ?_) (fun hc40 => ?_)
      · refine Wk.aload_n (k := 0) (q := 47) (by decide +kernel) rfl rfl rfl ?_
        refine Wk.getR (r := 8) (q := 50) f_Sw_19 (by decide +kernel) O_0 (by decide) rfl rfl rfl ?_
        refine Wk.aload_n (k := 0) (q := 51) (by decide +kernel) rfl rfl rfl ?_
        refine Wk.getR (r := 1) (q := 54) f_Sw_12 (by decide +kernel) O_0 (by decide) rfl rfl rfl ?_
        refine Wk.cV (q := 57) l_Sw_197 m_Hist_remember (by decide +kernel) (fun _ h => h) O_8 rfl (Nat.le_of_ble_eq_true rfl) (Nat.le_of_ble_eq_true rfl) rfl (c_Hist_remember (by rw [e8]; exact HH.1) (by rw [e8]; exact HH.2.1)) rfl (fun v0 Ia La hP4 => ?_)
        obtain ⟨rfl, ⟨J, hJ, eA⟩, eL⟩ := hP4
        have hRem : RemC I1 Ia := by rw [eA]; exact RemC.of hJ
        obtain ⟨set, R, hm⟩ := hM1 (by omega)
        refine Wk.iconst (n := 1) (q := 58) (by decide +kernel) rfl ?_
        refine Wk.istore_n (k := 2) (q := 59) (by decide +kernel) rfl (by decide) rfl (fun _ h => h) rfl ?_
        exact key I1 Ia La set R hc8 q1 hm (by omega) hRem (fun c hc => hRem.hi (by rw [e8]; exact HH.1) hc)
      · refine Wk.ldc (z := (-1000000004)) (q := 45) k_Sw_208 (by decide +kernel) (by decide +kernel) rfl ?_
        exact Wk.riP (by decide +kernel) rfl (by obtain ⟨set, R, hm⟩ := hM1 (by omega); exact ⟨_, rfl, Or.inr ⟨hc8, Or.inr ⟨I1, set, R, q1, hm, Or.inl ⟨by omega, rfl, rfl⟩⟩⟩⟩)
    · refine Wk.ldc (z := (-1000000003)) (q := 31) k_Sw_217 (by decide +kernel) (by decide +kernel) rfl ?_
      exact Wk.riP (by decide +kernel) rfl (⟨_, rfl, Or.inr ⟨hc8, Or.inl ⟨hM0 (by omega), rfl, q1⟩⟩⟩)
  · refine Wk.ldc (z := (-1000000001)) (q := 13) k_Sw_107 (by decide +kernel) (by decide +kernel) rfl ?_
    exact Wk.riP (by decide +kernel) rfl (⟨_, rfl, Or.inl ⟨hc8, rfl, rfl⟩⟩)
theorem c_Mod_shift {k : Int} (hk : -2147483648 ≤ k ∧ k ≤ 2147483647) (hM : MW I) (hK0 : 0 ≤ I 148 1) (hK1 : I 148 1 ≤ 16) : Wk xs x_Mod_shift (d + 10) 0 0 0 [some (vr 148), some (vi k), none, none, none] [] X2 I L (p2 fun u I' L' => (∃ z, u = some (vi z) ∧ ((¬ (0 ≤ k ∧ k < I 149 5) ∧ z = -1000000001 ∧ I' = I) ∨ ((0 ≤ k ∧ k < I 149 5) ∧ ((ZNone I k ∧ z = -1000000003 ∧ Kp I' I) ∨ ∃ I1 set R, Kp I1 I ∧ ZFound I k I1 set R ∧ ((I 149 4 = 5 ∧ z = -1000000004 ∧ I' = I1) ∨ (¬ I 149 4 = 5 ∧ z = nbit set 5 ∧ I' = unw (moo (sf (remM I1) set (I1 153) (I 149 4).toNat) k (I1 153 0)) k)))))) ∧ L' = L) := by
  obtain ⟨hI, hS, hQ⟩ := id hM
  obtain ⟨hW, hH, hT, hF, hA, hK, hD⟩ := id hI
  have h49 := WH49 (W := I 149 0) (H := I 149 1) (by omega) (by omega)
  have hRl : ∀ b, b < 90 → remM I 149 b = I 149 b := fun b hb => by
    show (if 149 = 149 then remW (I 148 1) (I 149) b else _) = _
    rw [if_pos rfl]
    exact remW_lo (by omega) (Or.inl hb)
  have key : ∀ (I1 : IM) (set : Int) (R : Int → Int), (0 ≤ k ∧ k < I 149 5) → Kp I1 I → ZFound I k I1 set R → ¬ I 149 4 = 5 → Wk xs x_Mod_shift (d + 10) 0 0 47 [some (vr 148), some (vi k), some (vi (nbit set 5)), some (vi (1 + nbit set 0)), some (vi 0)] [] X2 (sf (remM I1) set (I1 153) (0 : Int).toNat) L (p2 fun u I' L' => (∃ z, u = some (vi z) ∧ ((¬ (0 ≤ k ∧ k < I 149 5) ∧ z = -1000000001 ∧ I' = I) ∨ ((0 ≤ k ∧ k < I 149 5) ∧ ((ZNone I k ∧ z = -1000000003 ∧ Kp I' I) ∨ ∃ I1 set R, Kp I1 I ∧ ZFound I k I1 set R ∧ ((I 149 4 = 5 ∧ z = -1000000004 ∧ I' = I1) ∨ (¬ I 149 4 = 5 ∧ z = nbit set 5 ∧ I' = unw (moo (sf (remM I1) set (I1 153) (I 149 4).toNat) k (I1 153 0)) k)))))) ∧ L' = L) := by
    intro I1 set R hk5 q1 hm h5
    have hnb := nbit_nn set
    obtain ⟨m1, m2, m3, m4, m5, m6⟩ := id hm
    have hp5 : 2 ^ (I 149 4).toNat ≤ 2 ^ 5 := Nat.pow_le_pow_right (by decide) (by omega)
    have ew := q1.w
    have ek : I1 148 1 = I 148 1 := q1 148 1 (by decide) (by decide) (by decide) (by decide)
    have rl : ∀ b, b < 90 → remM I1 149 b = I 149 b := fun b hb => by rw [remM_lo (by rw [ek]; omega) (Or.inl hb), ew]
    have s4 : ∀ n, sf (remM I1) set (I1 153) n 149 4 = I 149 4 := fun n => ((sf_o _ _ _ n).2 4 (by decide)).trans (rl 4 (by decide))
    have s5 : ∀ n, sf (remM I1) set (I1 153) n 149 5 = I 149 5 := fun n => ((sf_o _ _ _ n).2 5 (by decide)).trans (rl 5 (by decide))
    have s8 : ∀ n, sf (remM I1) set (I1 153) n 148 11 = set := fun n => by rw [(sf_o _ _ _ n).1 148 (by decide), remM_8 (by decide)]; exact m5
    have s3 : ∀ n, sf (remM I1) set (I1 153) n 153 = I1 153 := fun n => ((sf_o _ _ _ n).1 153 (by decide)).trans (remM_o (by decide) (by decide))
    have n5 : ∀ c, moo (sf (remM I1) set (I1 153) (I 149 4).toNat) k c 149 5 = I 149 5 := fun c => by rw [moo_5 (by rw [s4]; omega), s5]
    refine loopI (fun a => Wk xs x_Mod_shift (d + 10) 0 0 47 [some (vr 148), some (vi k), some (vi (nbit set 5)), some (vi (1 + nbit set a)), some (vi a)] [] X2 (sf (remM I1) set (I1 153) a.toNat) L (p2 fun u I' L' => (∃ z, u = some (vi z) ∧ ((¬ (0 ≤ k ∧ k < I 149 5) ∧ z = -1000000001 ∧ I' = I) ∨ ((0 ≤ k ∧ k < I 149 5) ∧ ((ZNone I k ∧ z = -1000000003 ∧ Kp I' I) ∨ ∃ I1 set R, Kp I1 I ∧ ZFound I k I1 set R ∧ ((I 149 4 = 5 ∧ z = -1000000004 ∧ I' = I1) ∨ (¬ I 149 4 = 5 ∧ z = nbit set 5 ∧ I' = unw (moo (sf (remM I1) set (I1 153) (I 149 4).toNat) k (I1 153 0)) k)))))) ∧ L' = L)) (I 149 4) 0 (by omega) ?_ ?_
    · refine Wk.iload (i := 4) (q := 49) (by decide +kernel) rfl rfl ?_
      refine Wk.aload_n (k := 0) (q := 50) (by decide +kernel) rfl rfl rfl ?_
      refine Wk.getR (r := 149) (q := 53) f_Mod_7 (by decide +kernel) O_148 (by decide) rfl rfl rfl ?_
      refine Wk.iconst (n := 4) (q := 54) (by decide +kernel) rfl ?_
      refine Wk.iaload (q := 55) (by decide +kernel) A_149 (by first | omega | exact bi_rng _) (by first | omega | exact bi_rng _) rfl ?_
      rw [s4]
      refine Wk.icmp_ge (off := (42)) (t := 97) (q := 58) (by decide +kernel) (by decide) rfl (by first | omega | exact bi_rng _) (by first | omega | exact bi_rng _) (fun hc55 => ?_) (fun hc55 => ?_)
      · refine Wk.aload_n (k := 0) (q := 98) (by decide +kernel) rfl rfl rfl ?_
        refine Wk.iload_n (k := 1) (q := 99) (by decide +kernel) rfl rfl rfl ?_
        refine Wk.aload_n (k := 0) (q := 100) (by decide +kernel) rfl rfl rfl ?_
        refine Wk.getR (r := 153) (q := 103) f_Mod_22 (by decide +kernel) O_148 (by decide) rfl rfl rfl ?_
        refine Wk.iconst (n := 0) (q := 104) (by decide +kernel) rfl ?_
        refine Wk.iaload (q := 105) (by decide +kernel) A_153 (by first | omega | exact bi_rng _) (by first | omega | exact bi_rng _) rfl ?_
        rw [s3]
        refine Wk.cVv (q := 108) l_Mod_195 m_Mod_moor (by decide +kernel) (fun _ h => h) O_148 rfl (Nat.le_of_ble_eq_true rfl) (Nat.le_of_ble_eq_true rfl) rfl (c_Mod_moor hk5.1 (by omega) (by rw [s4]; omega) (by rw [s4]; omega)) rfl ?_
        refine Wk.aload_n (k := 0) (q := 109) (by decide +kernel) rfl rfl rfl ?_
        refine Wk.iload_n (k := 1) (q := 110) (by decide +kernel) rfl rfl rfl ?_
        refine Wk.cVv (q := 113) l_Mod_198 m_Mod_unwait (by decide +kernel) (fun _ h => h) O_148 rfl (Nat.le_of_ble_eq_true rfl) (Nat.le_of_ble_eq_true rfl) rfl (c_Mod_unwait hk5.1 (by rw [n5]; exact hk5.2) (by rw [n5]; omega)) rfl ?_
        refine Wk.iload_n (k := 2) (q := 114) (by decide +kernel) rfl rfl rfl ?_
        exact Wk.riP (by decide +kernel) rfl (⟨⟨_, rfl, Or.inr ⟨hk5, Or.inr ⟨I1, set, R, q1, hm, Or.inr ⟨h5, rfl, rfl⟩⟩⟩⟩, rfl⟩)
      · omega
    · intro a a0 a1 ih
      have hst := nbit_step (set := set) a0
      have hm1 := nbit_mono (set := set) (a := a + 1) (b := 5) (by omega) (by omega)
      have hm0 := nbit_mono (set := set) (a := 0) (b := a) (by omega) (by omega)
      rw [nbit_0] at hm0
      refine Wk.iload (i := 4) (q := 49) (by decide +kernel) rfl rfl ?_
      refine Wk.aload_n (k := 0) (q := 50) (by decide +kernel) rfl rfl rfl ?_
      refine Wk.getR (r := 149) (q := 53) f_Mod_7 (by decide +kernel) O_148 (by decide) rfl rfl rfl ?_
      refine Wk.iconst (n := 4) (q := 54) (by decide +kernel) rfl ?_
      refine Wk.iaload (q := 55) (by decide +kernel) A_149 (by first | omega | exact bi_rng _) (by first | omega | exact bi_rng _) rfl ?_
      rw [s4]
      refine Wk.icmp_ge (off := (42)) (t := 97) (q := 58) (by decide +kernel) (by decide) rfl (by first | omega | exact bi_rng _) (by first | omega | exact bi_rng _) (fun hc55 => ?_) (fun hc55 => ?_)
      · omega
      · refine Wk.aload_n (k := 0) (q := 59) (by decide +kernel) rfl rfl rfl ?_
        refine Wk.getI (z := 11) (q := 62) f_Mod_121 (by decide +kernel) O_148 (by decide) rfl rfl rfl ?_
        rw [s8]
        refine Wk.iload (i := 4) (q := 64) (by decide +kernel) rfl rfl ?_
        refine Wk.cSi (q := 67) l_Mod_58 m_Mod_has (by decide +kernel) (fun _ h => h) (Nat.le_of_ble_eq_true rfl) (Nat.le_of_ble_eq_true rfl) rfl (c_Mod_has (by omega) (by omega) (by omega) (by omega)) rfl ?_
        refine Wk.ifB_eq (off := (24)) (t := 91) (q := 70) (by decide +kernel) (by decide) rfl (fun hc67 => ?_) (fun hc67 => ?_)
        · refine Wk.iinc (i := 4) (n := 1) (q := 94) (by decide +kernel) rfl (by decide) rfl (fun _ h => h) rfl ?_
          refine Wk.goto (off := (-47)) (q := 47) (by decide +kernel) (by decide) ?_
          first
            | (rw [bi_f hc67, Int.add_zero] at hst
               rw [hst, sf_f a0 hc67] at ih
               exact ih)
            | (rw [bi_t hc67] at hst
               rw [hst, sf_t a0 hc67, show 1 + (nbit set a + 1) = 1 + nbit set a + 1 by omega] at ih
               exact ih)
        · have hst2 := hst
          rw [bi_t hc67] at hst2
          refine Wk.aload_n (k := 0) (q := 71) (by decide +kernel) rfl rfl rfl ?_
          refine Wk.getR (r := 149) (q := 74) f_Mod_7 (by decide +kernel) O_148 (by decide) rfl rfl rfl ?_
          refine Wk.iload (i := 4) (q := 76) (by decide +kernel) rfl rfl ?_
          refine Wk.cSi (q := 79) l_Mod_77 m_Mod_shipAt (by decide +kernel) (fun _ h => h) (Nat.le_of_ble_eq_true rfl) (Nat.le_of_ble_eq_true rfl) rfl (c_Mod_shipAt) rfl ?_
          refine Wk.iconst (n := 3) (q := 80) (by decide +kernel) rfl ?_
          refine Wk.iadd (q := 81) (by decide +kernel) rfl ?_
          refine Wk.aload_n (k := 0) (q := 82) (by decide +kernel) rfl rfl rfl ?_
          refine Wk.getR (r := 153) (q := 85) f_Mod_22 (by decide +kernel) O_148 (by decide) rfl rfl rfl ?_
          refine Wk.iload_n (k := 3) (q := 86) (by decide +kernel) rfl rfl rfl ?_
          refine Wk.iaload (q := 87) (by decide +kernel) A_153 (by first | omega | exact bi_rng _) (by first | omega | exact bi_rng _) rfl ?_
          rw [s3]
          refine Wk.iastore (q := 88) (by decide +kernel) A_149 (by first | omega | exact bi_rng _) (by first | omega | exact bi_rng _) rfl ?_
          refine Wk.iinc (i := 3) (n := 1) (q := 91) (by decide +kernel) rfl (by decide) rfl (fun _ h => h) rfl ?_
          refine Wk.iinc (i := 4) (n := 1) (q := 94) (by decide +kernel) rfl (by decide) rfl (fun _ h => h) rfl ?_
          refine Wk.goto (off := (-47)) (q := 47) (by decide +kernel) (by decide) ?_
          first
            | (rw [bi_f hc67, Int.add_zero] at hst
               rw [hst, sf_f a0 hc67] at ih
               exact ih)
            | (rw [bi_t hc67] at hst
               rw [hst, sf_t a0 hc67, show 1 + (nbit set a + 1) = 1 + nbit set a + 1 by omega] at ih
               exact ih)
  refine Wk.aload_n (k := 0) (q := 1) (by decide +kernel) rfl rfl rfl ?_
  refine Wk.iload_n (k := 1) (q := 2) (by decide +kernel) rfl rfl rfl ?_
  refine Wk.cVi (q := 5) l_Mod_170 m_Mod_isWaiting (by decide +kernel) (fun _ h => h) O_148 rfl (Nat.le_of_ble_eq_true rfl) (Nat.le_of_ble_eq_true rfl) rfl (c_Mod_isWaiting hk hI) rfl ?_
  refine Wk.ifB_ne (off := (6)) (t := 11) (q := 8) (by decide +kernel) (by decide) rfl (fun hc5 => ?_) (fun hc5 => ?_)
  · refine Wk.aload_n (k := 0) (q := 12) (by decide +kernel) rfl rfl rfl ?_
    refine Wk.iload_n (k := 1) (q := 13) (by decide +kernel) rfl rfl rfl ?_
    refine Wk.cV (q := 16) l_Mod_167 m_Mod_layMoves (by decide +kernel) (fun _ h => h) O_148 rfl (Nat.le_of_ble_eq_true rfl) (Nat.le_of_ble_eq_true rfl) rfl (c_Mod_layMoves hc5.1 hc5.2 hM) rfl (fun v I1 L1 hP => ?_)
    obtain ⟨hv, q1, eL1⟩ := hP
    rw [eL1]
    have ew := q1.w
    have ek : I1 148 1 = I 148 1 := q1 148 1 (by decide) (by decide) (by decide) (by decide)
    obtain ⟨y, hy, hz2⟩ : ∃ y : Int, ((∃ set R, y = nbit set 5 ∧ ZFound I k I1 set R) ∨ (y = -1 ∧ ZNone I k)) ∧ v = some (vi y) := by
      rcases hv with ⟨set, R, rfl, hv⟩ | ⟨rfl, hv⟩
      · exact ⟨_, Or.inl ⟨set, R, rfl, hv⟩, rfl⟩
      · exact ⟨_, Or.inr ⟨rfl, hv⟩, rfl⟩
    subst hz2
    have hyr : -1 ≤ y ∧ y ≤ 2 := by
      rcases hy with ⟨set, R, hy1, hw⟩ | ⟨hy1, -⟩
      · have := nbit_nn set
        have := hw.2.1
        omega
      · omega
    refine Wk.istore_n (k := 2) (q := 17) (by decide +kernel) rfl (by decide) rfl (fun _ h => h) rfl ?_
    refine Wk.iload_n (k := 2) (q := 18) (by decide +kernel) rfl rfl rfl ?_
    refine Wk.iconst (n := (-1)) (q := 19) (by decide +kernel) rfl ?_
    refine Wk.icmp_ne (off := (6)) (t := 25) (q := 22) (by decide +kernel) (by decide) rfl (by first | omega | exact bi_rng _) (by first | omega | exact bi_rng _) (fun hc19 => ?_) (fun hc19 => ?_)
    · obtain ⟨set, R, hy1, hzf⟩ := hy.resolve_right (fun w => by have := w.1; omega)
      refine Wk.aload_n (k := 0) (q := 26) (by decide +kernel) rfl rfl rfl ?_
      refine Wk.getR (r := 149) (q := 29) f_Mod_7 (by decide +kernel) O_148 (by decide) rfl rfl rfl ?_
      refine Wk.iconst (n := 4) (q := 30) (by decide +kernel) rfl ?_
      refine Wk.iaload (q := 31) (by decide +kernel) A_149 (by first | omega | exact bi_rng _) (by first | omega | exact bi_rng _) rfl ?_
      rw [ew]
      refine Wk.iconst (n := 5) (q := 32) (by decide +kernel) rfl ?_
      refine Wk.icmp_ne (off := (6)) (t := 38) (q := 35) (by decide +kernel) (by decide) rfl (by first | omega | exact bi_rng _) (by first | omega | exact bi_rng _) (fun hc32 => ?_) (fun hc32 => ?_)
      · refine Wk.aload_n (k := 0) (q := 39) (by decide +kernel) rfl rfl rfl ?_
        refine Wk.cVv (q := 42) l_Mod_188 m_Mod_remember (by decide +kernel) (fun _ h => h) O_148 rfl (Nat.le_of_ble_eq_true rfl) (Nat.le_of_ble_eq_true rfl) rfl (c_Mod_remember (by rw [ek]; exact hK0) (by rw [ek]; exact hK1)) rfl ?_
        refine Wk.iconst (n := 1) (q := 43) (by decide +kernel) rfl ?_
        refine Wk.istore_n (k := 3) (q := 44) (by decide +kernel) rfl (by decide) rfl (fun _ h => h) rfl ?_
        refine Wk.iconst (n := 0) (q := 45) (by decide +kernel) rfl ?_
        refine Wk.istore (i := 4) (q := 47) (by decide +kernel) (by decide) rfl (fun _ h => h) rfl ?_
        have k2 := key I1 set R hc5 q1 hzf hc32
        rw [nbit_0, ← hy1] at k2
        exact k2
      · refine Wk.ldc (z := (-1000000004)) (q := 37) k_Mod_194 (by decide +kernel) (by decide +kernel) rfl ?_
        exact Wk.riP (by decide +kernel) rfl (⟨⟨_, rfl, Or.inr ⟨hc5, Or.inr ⟨I1, set, R, q1, hzf, Or.inl ⟨hc32, rfl, rfl⟩⟩⟩⟩, rfl⟩)
    · have hzn := (hy.resolve_left (fun ⟨set, R, w, _⟩ => by have := nbit_nn set; omega)).2
      refine Wk.ldc (z := (-1000000003)) (q := 24) k_Mod_202 (by decide +kernel) (by decide +kernel) rfl ?_
      exact Wk.riP (by decide +kernel) rfl (⟨⟨_, rfl, Or.inr ⟨hc5, Or.inl ⟨hzn, rfl, q1⟩⟩⟩, rfl⟩)
  · refine Wk.ldc (z := (-1000000001)) (q := 10) k_Mod_160 (by decide +kernel) (by decide +kernel) rfl ?_
    exact Wk.riP (by decide +kernel) rfl (⟨⟨_, rfl, Or.inl ⟨hc5, rfl, rfl⟩⟩, rfl⟩)
end SHF
