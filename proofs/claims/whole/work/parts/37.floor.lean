/-! THE LIBRARY's floorMod; what is brought back; images -/
theorem nZ_remS {a b : Int} (ha : -2147483648 ≤ a ∧ a ≤ 2147483647) (hb : 0 < b ∧ b ≤ 2147483647) : nZ (a - a.tdiv b * b) = nZ a - nZ a / nZ b * nZ b := by
  have e1 : Int32.minValue.toInt = -2147483648 := by decide
  have e2 : Int32.maxValue.toInt = 2147483647 := by decide
  have e : nZ (a.tdiv b) = nZ a / nZ b := Int32.ofInt_tdiv (by rw [e1]; omega) (by rw [e2]; omega) (by rw [e1]; omega) (by rw [e2]; omega)
  rw [nZ_sub, nZ_mul, e]
theorem Wk.iremS {xs : RO} {cx : CX} {d bc bs pc q : Nat} {lv : List (Option AV)} {st : List AV} {X : LY} {I : IM} {L : LM} {post : Option AV → LY → IM → LM → Prop} {a b : Int} (hd : decode (cxC cx) pc = .ok (.irem, 1)) (ha : -2147483648 ≤ a ∧ a ≤ 2147483647) (hb : 0 < b ∧ b ≤ 2147483647) (hq : pc + 1 = q) (k : Wk xs cx d bc bs q lv (vi (a - a.tdiv b * b) :: st) X I L post) : Wk xs cx d bc bs pc lv (vi b :: vi a :: st) X I L post := by
  subst hq
  exact Wk.go1 (fun _ g _ _ _ _ _ _ _ _ _ _ _ _ _ _ ls hF _ _ _ hl k => lv_irem hF.1 hF.2.1 hd (nZ_ne0 hb) (by have k2 := k; simp only [List.map, cv, vi, nZ_remS ha hb] at k2; exact k2)) k
theorem fm_dec : ∀ n : Nat, n < 32 → ((-2147483648 ≤ (nZ ((n : Int) - 16) ^^^ nZ 16).toInt ∧ (nZ ((n : Int) - 16) ^^^ nZ 16).toInt ≤ 2147483647) ∧ (-16 ≤ ((n : Int) - 16) - ((n : Int) - 16).tdiv 16 * 16 ∧ ((n : Int) - 16) - ((n : Int) - 16).tdiv 16 * 16 ≤ 16)) ∧ ((0 ≤ (nZ ((n : Int) - 16) ^^^ nZ 16).toInt ∨ ((n : Int) - 16) - ((n : Int) - 16).tdiv 16 * 16 = 0) → ((n : Int) - 16) - ((n : Int) - 16).tdiv 16 * 16 = ((n : Int) - 16) % 16) ∧ (¬ 0 ≤ (nZ ((n : Int) - 16) ^^^ nZ 16).toInt ∧ ¬ ((n : Int) - 16) - ((n : Int) - 16).tdiv 16 * 16 = 0 → ((n : Int) - 16) - ((n : Int) - 16).tdiv 16 * 16 + 16 = ((n : Int) - 16) % 16) := by decide +kernel
section FMO
variable {xs : RO} {d : Nat} {I : IM} {L : LM}

theorem c_Math_floorMod {a : Int} (h0 : -16 ≤ a) (h1 : a < 16) : Wk xs x_Math_floorMod d 0 0 0 [some (vi a), some (vi 16), none] [] X2 I L (pI (a % 16) I L) := by
  have h := fm_dec (a + 16).toNat (by omega)
  rw [show (((a + 16).toNat : Nat) : Int) - 16 = a by omega] at h
  obtain ⟨⟨r1, r2⟩, r3, r4⟩ := h
  refine Wk.iload_n (k := 0) (q := 1) (by decide +kernel) rfl rfl rfl ?_
  refine Wk.iload_n (k := 1) (q := 2) (by decide +kernel) rfl rfl rfl ?_
  refine Wk.iremS (q := 3) (by decide +kernel) (by omega) (by omega) rfl ?_
  refine Wk.istore_n (k := 2) (q := 4) (by decide +kernel) rfl (by decide) rfl (fun _ h => h) rfl ?_
  refine Wk.iload_n (k := 0) (q := 5) (by decide +kernel) rfl rfl rfl ?_
  refine Wk.iload_n (k := 1) (q := 6) (by decide +kernel) rfl rfl rfl ?_
  refine Wk.ixor (q := 7) (by decide +kernel) rfl ?_
  refine Wk.if_ge (off := (11)) (t := 18) (q := 10) (by decide +kernel) (by decide) rfl (by first | exact r1 | omega) (fun hc7 => ?_) (fun hc7 => ?_)
  · refine Wk.iload_n (k := 2) (q := 19) (by decide +kernel) rfl rfl rfl ?_
    exact Wk.rI (by decide +kernel) rfl (by first | exact r3 (by first | exact Or.inl hc7 | exact Or.inr hc11) | exact r4 ⟨by omega, hc11⟩)
  · refine Wk.iload_n (k := 2) (q := 11) (by decide +kernel) rfl rfl rfl ?_
    refine Wk.if_eq (off := (7)) (t := 18) (q := 14) (by decide +kernel) (by decide) rfl (by first | exact r1 | omega) (fun hc11 => ?_) (fun hc11 => ?_)
    · refine Wk.iload_n (k := 2) (q := 19) (by decide +kernel) rfl rfl rfl ?_
      exact Wk.rI (by decide +kernel) rfl (by first | exact r3 (by first | exact Or.inl hc7 | exact Or.inr hc11) | exact r4 ⟨by omega, hc11⟩)
    · refine Wk.iload_n (k := 2) (q := 15) (by decide +kernel) rfl rfl rfl ?_
      refine Wk.iload_n (k := 1) (q := 16) (by decide +kernel) rfl rfl rfl ?_
      refine Wk.iadd (q := 17) (by decide +kernel) rfl ?_
      exact Wk.rI (by decide +kernel) rfl (by first | exact r3 (by first | exact Or.inl hc7 | exact Or.inr hc11) | exact r4 ⟨by omega, hc11⟩)
theorem c_Hist_bringBack {n : Int} (h0 : 0 ≤ I 8 1 ∧ I 8 1 < 16) (hn1 : 1 ≤ n ∧ n ≤ 16) : Wk xs x_Hist_bringBack (d + 2) 0 0 0 [some (vr 8), some (vi n), some (vr 1)] [] X2 I L (p2 fun v I' L' => v = none ∧ HC (iup (iup I 8 1 ((I 8 1 - n) % 16)) 8 2 (I 8 2 - n)) (10 + 7 * ((I 8 1 - n) % 16).toNat) 1 6 I' ∧ L' = L) := by
  have hm : 0 ≤ (I 8 1 - n) % 16 ∧ (I 8 1 - n) % 16 < 16 := by omega
  have hn : ((I 8 1 - n) % 16).toNat < 16 := by omega
  refine Wk.aload_n (k := 0) (q := 1) (by decide +kernel) rfl rfl rfl ?_
  refine Wk.aload_n (k := 0) (q := 2) (by decide +kernel) rfl rfl rfl ?_
  refine Wk.getI (z := 1) (q := 5) f_Hist_18 (by decide +kernel) O_8 (by decide) rfl rfl rfl ?_
  refine Wk.iload_n (k := 1) (q := 6) (by decide +kernel) rfl rfl rfl ?_
  refine Wk.isub (q := 7) (by decide +kernel) rfl ?_
  refine Wk.bipush (n := 16) (q := 9) (by decide +kernel) (by decide +kernel) rfl ?_
  refine Wk.cSi (q := 12) l_Hist_35 m_Math_floorMod (by decide +kernel) (fun _ h => h) (Nat.le_of_ble_eq_true rfl) (Nat.le_of_ble_eq_true rfl) rfl (c_Math_floorMod (by omega) (by omega)) rfl ?_
  refine Wk.putI (z := 1) (q := 15) f_Hist_18 fw_Hist_1 (by decide +kernel) O_8 (by decide) rfl rfl ⟨rfl, rfl⟩ rfl ?_
  refine Wk.aload_n (k := 0) (q := 16) (by decide +kernel) rfl rfl rfl ?_
  refine Wk.dup (q := 17) (by decide +kernel) rfl rfl ?_
  refine Wk.getI (z := 2) (q := 20) f_Hist_26 (by decide +kernel) O_8 (by decide) rfl rfl rfl ?_
  rw [iup_ne (by omega)]
  refine Wk.iload_n (k := 1) (q := 21) (by decide +kernel) rfl rfl rfl ?_
  refine Wk.isub (q := 22) (by decide +kernel) rfl ?_
  refine Wk.putI (z := 2) (q := 25) f_Hist_26 fw_Hist_2 (by decide +kernel) O_8 (by decide) rfl rfl ⟨rfl, rfl⟩ rfl ?_
  refine Wk.aload_n (k := 2) (q := 26) (by decide +kernel) rfl rfl rfl ?_
  refine Wk.aload_n (k := 0) (q := 27) (by decide +kernel) rfl rfl rfl ?_
  refine Wk.getR (r := 9) (q := 30) f_Hist_11 (by decide +kernel) O_8 (by decide) rfl rfl rfl ?_
  refine Wk.aload_n (k := 0) (q := 31) (by decide +kernel) rfl rfl rfl ?_
  refine Wk.getI (z := 1) (q := 34) f_Hist_18 (by decide +kernel) O_8 (by decide) rfl rfl rfl ?_
  rw [iup_ne (by omega), iup_at]
  refine Wk.aaload (r := 10 + 7 * ((I 8 1 - n) % 16).toNat) (q := 35) (by decide +kernel) A_9 (by decide) (by first | omega | exact bi_rng _) (by first | omega | exact bi_rng _) (R9 _ hn) rfl ?_
  refine Wk.cV (q := 38) l_Hist_22 m_Harb_copyFrom (by decide +kernel) (fun _ h => h) O_1 rfl (Nat.le_of_ble_eq_true rfl) (Nat.le_of_ble_eq_true rfl) rfl (c_Harb_copyFrom HOK_1 (HOK_h _ hn) (by omega)) rfl (fun v I1 L1 hP => ?_)
  obtain ⟨rfl, hH, rfl⟩ := hP
  exact Wk.rvP (by decide +kernel) rfl (⟨rfl, hH, rfl⟩)
theorem c_Imag_take {i : Nat} {v : Int} (hi : i < 2) : Wk xs x_Imag_take (d + 2) 0 0 0 [some (vr (132 + 8 * i)), some (vr 1), some (vi v)] [] X2 I L (p2 fun u I' L' => u = none ∧ (∃ I1, HC I 1 (133 + 8 * i) 6 I1 ∧ I' = iup (iup I1 (132 + 8 * i) 1 v) (132 + 8 * i) 2 1) ∧ L' = L) := by
  refine Wk.aload_n (k := 0) (q := 1) (by decide +kernel) rfl rfl rfl ?_
  refine Wk.getR (r := (133 + 8 * i)) (q := 4) f_Imag_10 (by decide +kernel) (IO_i i hi).1 (by decide) rfl ((IO_i i hi).2) rfl ?_
  refine Wk.aload_n (k := 1) (q := 5) (by decide +kernel) rfl rfl rfl ?_
  refine Wk.cV (q := 8) l_Imag_16 m_Harb_copyFrom (by decide +kernel) (fun _ h => h) (HOK_i i hi).1 rfl (Nat.le_of_ble_eq_true rfl) (Nat.le_of_ble_eq_true rfl) rfl (c_Harb_copyFrom (HOK_i i hi) HOK_1 (by omega)) rfl (fun u I1 L1 hP => ?_)
  obtain ⟨rfl, hH, rfl⟩ := hP
  refine Wk.aload_n (k := 0) (q := 9) (by decide +kernel) rfl rfl rfl ?_
  refine Wk.iload_n (k := 2) (q := 10) (by decide +kernel) rfl rfl rfl ?_
  refine Wk.putI (z := 1) (q := 13) f_Imag_20 fw_Imag_1 (by decide +kernel) (IO_i i hi).1 (by decide) rfl rfl ⟨rfl, rfl⟩ rfl ?_
  refine Wk.aload_n (k := 0) (q := 14) (by decide +kernel) rfl rfl rfl ?_
  refine Wk.iconst (n := 1) (q := 15) (by decide +kernel) rfl ?_
  refine Wk.putI (z := 2) (q := 18) f_Imag_24 fw_Imag_2 (by decide +kernel) (IO_i i hi).1 (by decide) rfl rfl ⟨by decide +kernel, by decide +kernel⟩ rfl ?_
  exact Wk.rvP (by decide +kernel) rfl (⟨rfl, ⟨I1, hH, rfl⟩, rfl⟩)
end FMO
