/-! THE INVARIANT, and what is told -/
def VH (I : IM) (o : Nat) : Prop := ((2 ≤ I o 0 ∧ I o 0 ≤ 7) ∧ (2 ≤ I o 1 ∧ I o 1 ≤ 7) ∧ (-3 ≤ I o 2 ∧ I o 2 ≤ 3) ∧ (1 ≤ I o 3 ∧ I o 3 ≤ 255) ∧ (0 ≤ I o 4 ∧ I o 4 ≤ 5) ∧ (0 ≤ I o 5 ∧ I o 5 ≤ 3) ∧ ∀ k, 0 ≤ k → k < 49 → 0 ≤ I (o + 1) k ∧ I (o + 1) k ≤ 9) ∧ (∀ s, (0 ≤ s ∧ s < I o 4) ∨ (5 ≤ s ∧ s < 5 + I o 5) → (1 ≤ I (o + 2) s ∧ I (o + 2) s ≤ 9) ∧ (0 ≤ I (o + 3) s ∧ I (o + 3) s ≤ 2) ∧ (1 ≤ I (o + 4) s ∧ I (o + 4) s ≤ 2)) ∧ ∀ a, 0 ≤ a → a < I o 4 → (0 ≤ I (o + 5) a ∧ I (o + 5) a < I o 0) ∧ (0 ≤ I (o + 6) a ∧ I (o + 6) a < I o 1)
theorem VH_1 {I : IM} : VH I 1 ↔ CW I := Iff.rfl
/-- a Harbour of the class and a row of the reference -/
def HR (I : IM) (o : Nat) (b : Int) : Prop := (∀ k, 0 ≤ k → k < 6 → I o k = I 149 (b + k)) ∧ (∀ k, 0 ≤ k → k < 49 → I (o + 1) k = I 149 (b + 6 + k)) ∧ (∀ s, (0 ≤ s ∧ s < I o 4) ∨ (5 ≤ s ∧ s < 5 + I o 5) → I (o + 2) s = I 149 (b + 55 + 4 * s) ∧ I (o + 3) s = I 149 (b + 55 + 4 * s + 1) ∧ I (o + 4) s = I 149 (b + 55 + 4 * s + 2)) ∧ ∀ a, 0 ≤ a → a < I o 4 → I (o + 6) a * I o 0 + I (o + 5) a = I 149 (b + 55 + 4 * a + 3)
def HB (I : IM) (o : Nat) (b : Int) : Prop := VH I o ∧ HR I o b
theorem HR_0 {I : IM} : HR I 1 0 ↔ HRc I := by
  unfold HR HRc
  simp only [Int.zero_add]
  constructor
  · rintro ⟨h1, h2, h3, h4⟩
    exact ⟨⟨h1 0 (by decide) (by decide), h1 1 (by decide) (by decide), h1 2 (by decide) (by decide), h1 3 (by decide) (by decide), h1 4 (by decide) (by decide), h1 5 (by decide) (by decide)⟩, h2, h3, h4⟩
  · rintro ⟨⟨a0, a1, a2, a3, a4, a5⟩, h2, h3, h4⟩
    refine ⟨fun k k0 k1 => ?_, h2, h3, h4⟩
    have hk : k = 0 ∨ k = 1 ∨ k = 2 ∨ k = 3 ∨ k = 4 ∨ k = 5 := by omega
    rcases hk with rfl | rfl | rfl | rfl | rfl | rfl <;> assumption
theorem HB_0 {I : IM} : HB I 1 0 ↔ Cur I := and_congr Iff.rfl HR_0
def Hst (I : IM) : Prop := (0 ≤ I 8 1 ∧ I 8 1 < 16) ∧ (0 ≤ I 8 2 ∧ I 8 2 ≤ 16) ∧ I 8 2 = I 148 1 ∧ ∀ j, 1 ≤ j → j ≤ I 8 2 → HB I (10 + 7 * ((I 8 1 - j) % 16).toNat) (90 * (I 8 2 - j + 1))
def Img (I : IM) : Prop := (0 ≤ I 148 2 ∧ I 148 2 ≤ 3) ∧ ∀ i : Nat, i < 2 → I (132 + 8 * i) 2 = bi (bt (I 148 2) i = true) ∧ (bt (I 148 2) i = true → HB I (133 + 8 * i) (1530 + 90 * i) ∧ I (132 + 8 * i) 1 = I 150 i ∧ 0 ≤ I 150 i ∧ I 150 i ≤ 2147483647)
def Sd (I : IM) : Prop := I 0 5 = I 148 3 ∧ 0 ≤ I 148 3 ∧ I 148 3 ≤ 2147483647
def Bk (I : IM) : Prop := I 128 2 = I 148 7 ∧ MBk I ∧ ∀ k, 0 ≤ k → k < I 148 7 → I 129 k = I 151 k ∧ I 130 k = I 152 k
def Inv (I : IM) : Prop := Cur I ∧ Hst I ∧ Img I ∧ Sd I ∧ Bk I
def Told (I : IM) (q z : Int) : Prop := if q = 0 then z = I 149 0 else if q = 1 then z = I 149 1 else if q = 2 then z = I 149 2 else if q = 3 then z = I 149 3 else if q = 4 then z = I 149 4 else if q = 5 then z = I 149 5 else if q = 6 then z = mDG I (I 149 3) else if q = 7 then z = sm (fun a => ct (fun b => bt (so (fun b => ¬ a = b ∧ mCa I (I 149 3) a b) (I 149 4).toNat) b = true) 5) (I 149 4).toNat / 2 else if q = 8 then z = bi (Exr (zG I 0 (fun i => 5 + i)) (zK I (fun i => 5 + i)) (I 149 5).toNat 0 (fun _ => 0)) else if q = 9 then z = so (fun w => ¬ mDG I (orb (I 149 3) w) = mDG I (I 149 3)) 8 else if q = 10 then z = ct (fun c => ¬ so (fun a => mSW I (55 + 4 * a) (I 149 (55 + 4 * a + 3)) (c % I 149 0) (c / I 149 0)) (I 149 4).toNat = 0) (I 149 0 * I 149 1).toNat else if q = 11 then z = I 148 7 else if q = 12 then Fst (fun k => ¬ (0 ≤ I 151 k ∧ I 151 k < I 149 4) ∨ ¬ I 149 (55 + 4 * I 151 k + 3) = I 152 k) (I 148 7) z else if q = 13 then z = I 148 1 else if q = 14 then z = I 148 3 else z = -1000000002
theorem eP (I : IM) (h : Cur I) : sm (fun a => ct (fun b => bt (so (fun b => ¬ b = a ∧ cCL I (I 1 3) a b) (I 1 4).toNat) b = true) 5) (I 1 4).toNat / 2 = sm (fun a => ct (fun b => bt (so (fun b => ¬ a = b ∧ mCa I (I 149 3) a b) (I 149 4).toNat) b = true) 5) (I 149 4).toNat / 2 := by
  rw [h.n4]
  congr 1
  refine sm_cong fun a a0 a1 => ?_
  rw [eCs h a0 (show a < I 1 4 by omega), h.n4]
theorem eSwA (I : IM) (h : Cur I) {u : Int64} (hu : LB u (fun cx cy => inE (I 1 0) (I 1 1) cx cy ∧ ∃ a, (0 ≤ a ∧ a < I 1 4) ∧ cSW I (I 1 3) a cx cy)) : ct (fun s => bl u s = true) 64 = ct (fun c => ¬ so (fun a => mSW I (55 + 4 * a) (I 149 (55 + 4 * a + 3)) (c % I 149 0) (c / I 149 0)) (I 149 4).toNat = 0) (I 149 0 * I 149 1).toNat := by
  obtain ⟨hW, hH, -⟩ := h.1.1
  have hw := h.wh
  refine (LB_ct hu).trans ((ct_both (P := fun cx cy => inE (I 1 0) (I 1 1) cx cy ∧ ∃ a, (0 ≤ a ∧ a < I 1 4) ∧ cSW I (I 1 3) a cx cy) hW hH (fun x y p => p.1)).trans ?_)
  rw [h.w0, h.h1, h.n4]
  refine ct_cong fun c c0 c1 => ?_
  obtain ⟨hx, hy⟩ := mcoord hW.1 c0 (show c < I 1 0 * I 1 1 by omega)
  rw [so_zero]
  constructor
  · rintro ⟨-, a, a0, a1⟩ hz
    exact hz a a0.1 (by omega) ((eSW h a0.1 a0.2).mpr a1)
  · intro hz
    refine ⟨⟨hx.1, hx.2, hy.1, hy.2⟩, Classical.byContradiction fun hn => hz fun a a0 a1 hs => hn ⟨a, by omega, (eSW h a0 (by omega)).mp hs⟩⟩
theorem eBk (I : IM) (h : Inv I) : ∀ k, 0 ≤ k → k < I 128 2 → ((¬ (0 ≤ I 129 k ∧ I 129 k < I 1 4) ∨ ¬ I 7 (I 129 k) * I 1 0 + I 6 (I 129 k) = I 130 k) ↔ (fun k => ¬ (0 ≤ I 151 k ∧ I 151 k < I 149 4) ∨ ¬ I 149 (55 + 4 * I 151 k + 3) = I 152 k) k) := by
  obtain ⟨hc, -, -, -, hb1, hb2, hb3⟩ := h
  intro k k0 k1
  obtain ⟨e1, e2⟩ := hb3 k k0 (by omega)
  show _ ↔ (¬ (0 ≤ I 151 k ∧ I 151 k < I 149 4) ∨ ¬ I 149 (55 + 4 * I 151 k + 3) = I 152 k)
  rw [← e1, ← e2, hc.n4]
  by_cases hs : 0 ≤ I 129 k ∧ I 129 k < I 1 4
  · rw [hc.2.2.2.2 _ hs.1 hs.2]
  · exact ⟨fun _ => Or.inl hs, fun _ => Or.inl hs⟩
theorem eAll (I : IM) (h : Cur I) : Exr (aG I) (aK I) (I 1 5).toNat 0 (fun _ => 0) ↔ Exr (zG I 0 (fun i => 5 + i)) (zK I (fun i => 5 + i)) (I 149 5).toNat 0 (fun _ => 0) := by
  rw [aG_mG, aK_mK, h.n5]
  exact eEx h (fun i i0 i1 => Or.inr ⟨by omega, by have := h.1.1.2.2.2.2.2.1; omega⟩) _ _
section TLD
variable {xs : RO} {d : Nat} {I : IM} {L : LM}

theorem c_Sw_told {q : Int} (hq : -2147483648 ≤ q ∧ q ≤ 2147483647) (hI : Inv I) : Wk xs x_Sw_told (d + 11) 0 0 0 [some (vr 0), some (vi q)] [] X2 I L (p2 fun v I' _ => (∃ z, v = some (vi z) ∧ Told I q z) ∧ FrS I' I) := by
  have hc : Cur I := hI.1
  have hC : CW I := hc.1
  have hF : 1 ≤ I 1 3 ∧ I 1 3 ≤ 255 := hC.1.2.2.2.1
  refine Wk.iload_n (k := 1) (q := 1) (by decide +kernel) rfl rfl rfl ?_
  rcases Classical.em (q < 0 ∨ 14 < q) with hsw | hsw
  · refine Wk.tabOut (dflt := 218) (lo := 0) (hi := 14) (offs := #[75, 83, 91, 99, 107, 115, 123, 138, 146, 166, 174, 185, 193, 205, 213]) (len := 75) (t := 219) (by decide +kernel) (hq) hsw (by decide) ?_
    refine Wk.ldc (z := (-1000000002)) (q := 221) k_Sw_102 (by decide +kernel) (by decide +kernel) rfl ?_
    exact Wk.riP (by decide +kernel) rfl (⟨⟨_, rfl, by unfold Told; rw [if_neg (by omega), if_neg (by omega), if_neg (by omega), if_neg (by omega), if_neg (by omega), if_neg (by omega), if_neg (by omega), if_neg (by omega), if_neg (by omega), if_neg (by omega), if_neg (by omega), if_neg (by omega), if_neg (by omega), if_neg (by omega), if_neg (by omega)]⟩, fun _ _ _ _ => rfl⟩)
  · have hsx : q = 0 ∨ q = 1 ∨ q = 2 ∨ q = 3 ∨ q = 4 ∨ q = 5 ∨ q = 6 ∨ q = 7 ∨ q = 8 ∨ q = 9 ∨ q = 10 ∨ q = 11 ∨ q = 12 ∨ q = 13 ∨ q = 14 := by omega
    rcases hsx with rfl | rfl | rfl | rfl | rfl | rfl | rfl | rfl | rfl | rfl | rfl | rfl | rfl | rfl | rfl
    · refine Wk.tabIn (dflt := 218) (lo := 0) (hi := 14) (offs := #[75, 83, 91, 99, 107, 115, 123, 138, 146, 166, 174, 185, 193, 205, 213]) (len := 75) (off := 75) (t := 76) (by decide +kernel) (by decide) (by decide) (by decide) (by decide) (by decide) ?_
      refine Wk.aload_n (k := 0) (q := 77) (by decide +kernel) rfl rfl rfl ?_
      refine Wk.getR (r := 1) (q := 80) f_Sw_12 (by decide +kernel) O_0 (by decide) rfl rfl rfl ?_
      refine Wk.getI (z := 0) (q := 83) f_Sw_48 (by decide +kernel) O_1 (by decide) rfl rfl rfl ?_
      exact Wk.riP (by decide +kernel) rfl (⟨⟨_, rfl, by unfold Told; rw [if_pos rfl] <;> exact (hc.2.1.1)⟩, fun _ _ _ _ => rfl⟩)
    · refine Wk.tabIn (dflt := 218) (lo := 0) (hi := 14) (offs := #[75, 83, 91, 99, 107, 115, 123, 138, 146, 166, 174, 185, 193, 205, 213]) (len := 75) (off := 83) (t := 84) (by decide +kernel) (by decide) (by decide) (by decide) (by decide) (by decide) ?_
      refine Wk.aload_n (k := 0) (q := 85) (by decide +kernel) rfl rfl rfl ?_
      refine Wk.getR (r := 1) (q := 88) f_Sw_12 (by decide +kernel) O_0 (by decide) rfl rfl rfl ?_
      refine Wk.getI (z := 1) (q := 91) f_Sw_51 (by decide +kernel) O_1 (by decide) rfl rfl rfl ?_
      exact Wk.riP (by decide +kernel) rfl (⟨⟨_, rfl, by unfold Told; rw [if_neg (by decide), if_pos rfl] <;> exact (hc.2.1.2.1)⟩, fun _ _ _ _ => rfl⟩)
    · refine Wk.tabIn (dflt := 218) (lo := 0) (hi := 14) (offs := #[75, 83, 91, 99, 107, 115, 123, 138, 146, 166, 174, 185, 193, 205, 213]) (len := 75) (off := 91) (t := 92) (by decide +kernel) (by decide) (by decide) (by decide) (by decide) (by decide) ?_
      refine Wk.aload_n (k := 0) (q := 93) (by decide +kernel) rfl rfl rfl ?_
      refine Wk.getR (r := 1) (q := 96) f_Sw_12 (by decide +kernel) O_0 (by decide) rfl rfl rfl ?_
      refine Wk.getI (z := 2) (q := 99) f_Sw_54 (by decide +kernel) O_1 (by decide) rfl rfl rfl ?_
      exact Wk.riP (by decide +kernel) rfl (⟨⟨_, rfl, by unfold Told; rw [if_neg (by decide), if_neg (by decide), if_pos rfl] <;> exact (hc.2.1.2.2.1)⟩, fun _ _ _ _ => rfl⟩)
    · refine Wk.tabIn (dflt := 218) (lo := 0) (hi := 14) (offs := #[75, 83, 91, 99, 107, 115, 123, 138, 146, 166, 174, 185, 193, 205, 213]) (len := 75) (off := 99) (t := 100) (by decide +kernel) (by decide) (by decide) (by decide) (by decide) (by decide) ?_
      refine Wk.aload_n (k := 0) (q := 101) (by decide +kernel) rfl rfl rfl ?_
      refine Wk.getR (r := 1) (q := 104) f_Sw_12 (by decide +kernel) O_0 (by decide) rfl rfl rfl ?_
      refine Wk.getI (z := 3) (q := 107) f_Sw_57 (by decide +kernel) O_1 (by decide) rfl rfl rfl ?_
      exact Wk.riP (by decide +kernel) rfl (⟨⟨_, rfl, by unfold Told; rw [if_neg (by decide), if_neg (by decide), if_neg (by decide), if_pos rfl] <;> exact (hc.2.1.2.2.2.1)⟩, fun _ _ _ _ => rfl⟩)
    · refine Wk.tabIn (dflt := 218) (lo := 0) (hi := 14) (offs := #[75, 83, 91, 99, 107, 115, 123, 138, 146, 166, 174, 185, 193, 205, 213]) (len := 75) (off := 107) (t := 108) (by decide +kernel) (by decide) (by decide) (by decide) (by decide) (by decide) ?_
      refine Wk.aload_n (k := 0) (q := 109) (by decide +kernel) rfl rfl rfl ?_
      refine Wk.getR (r := 1) (q := 112) f_Sw_12 (by decide +kernel) O_0 (by decide) rfl rfl rfl ?_
      refine Wk.getI (z := 4) (q := 115) f_Sw_60 (by decide +kernel) O_1 (by decide) rfl rfl rfl ?_
      exact Wk.riP (by decide +kernel) rfl (⟨⟨_, rfl, by unfold Told; rw [if_neg (by decide), if_neg (by decide), if_neg (by decide), if_neg (by decide), if_pos rfl] <;> exact (hc.2.1.2.2.2.2.1)⟩, fun _ _ _ _ => rfl⟩)
    · refine Wk.tabIn (dflt := 218) (lo := 0) (hi := 14) (offs := #[75, 83, 91, 99, 107, 115, 123, 138, 146, 166, 174, 185, 193, 205, 213]) (len := 75) (off := 115) (t := 116) (by decide +kernel) (by decide) (by decide) (by decide) (by decide) (by decide) ?_
      refine Wk.aload_n (k := 0) (q := 117) (by decide +kernel) rfl rfl rfl ?_
      refine Wk.getR (r := 1) (q := 120) f_Sw_12 (by decide +kernel) O_0 (by decide) rfl rfl rfl ?_
      refine Wk.getI (z := 5) (q := 123) f_Sw_63 (by decide +kernel) O_1 (by decide) rfl rfl rfl ?_
      exact Wk.riP (by decide +kernel) rfl (⟨⟨_, rfl, by unfold Told; rw [if_neg (by decide), if_neg (by decide), if_neg (by decide), if_neg (by decide), if_neg (by decide), if_pos rfl] <;> exact (hc.2.1.2.2.2.2.2)⟩, fun _ _ _ _ => rfl⟩)
    · refine Wk.tabIn (dflt := 218) (lo := 0) (hi := 14) (offs := #[75, 83, 91, 99, 107, 115, 123, 138, 146, 166, 174, 185, 193, 205, 213]) (len := 75) (off := 123) (t := 124) (by decide +kernel) (by decide) (by decide) (by decide) (by decide) (by decide) ?_
      refine Wk.aload_n (k := 0) (q := 125) (by decide +kernel) rfl rfl rfl ?_
      refine Wk.getR (r := 1) (q := 128) f_Sw_12 (by decide +kernel) O_0 (by decide) rfl rfl rfl ?_
      refine Wk.aload_n (k := 0) (q := 129) (by decide +kernel) rfl rfl rfl ?_
      refine Wk.getR (r := 1) (q := 132) f_Sw_12 (by decide +kernel) O_0 (by decide) rfl rfl rfl ?_
      refine Wk.getI (z := 3) (q := 135) f_Sw_57 (by decide +kernel) O_1 (by decide) rfl rfl rfl ?_
      refine Wk.cSi (q := 138) l_Sw_66 m_Swing_inDanger (by decide +kernel) (fun _ h => h) (Nat.le_of_ble_eq_true rfl) (Nat.le_of_ble_eq_true rfl) rfl (c_Swing_inDanger (by omega) hC) rfl ?_
      exact Wk.riP (by decide +kernel) rfl (⟨⟨_, rfl, by unfold Told; rw [if_neg (by decide), if_neg (by decide), if_neg (by decide), if_neg (by decide), if_neg (by decide), if_neg (by decide), if_pos rfl] <;> exact (by rw [hc.f3]; exact eDG hc _)⟩, fun _ _ _ _ => rfl⟩)
    · refine Wk.tabIn (dflt := 218) (lo := 0) (hi := 14) (offs := #[75, 83, 91, 99, 107, 115, 123, 138, 146, 166, 174, 185, 193, 205, 213]) (len := 75) (off := 138) (t := 139) (by decide +kernel) (by decide) (by decide) (by decide) (by decide) (by decide) ?_
      refine Wk.aload_n (k := 0) (q := 140) (by decide +kernel) rfl rfl rfl ?_
      refine Wk.getR (r := 1) (q := 143) f_Sw_12 (by decide +kernel) O_0 (by decide) rfl rfl rfl ?_
      refine Wk.cSi (q := 146) l_Sw_72 m_Swing_pairsThatClash (by decide +kernel) (fun _ h => h) (Nat.le_of_ble_eq_true rfl) (Nat.le_of_ble_eq_true rfl) rfl (c_Swing_pairsThatClash hC) rfl ?_
      exact Wk.riP (by decide +kernel) rfl (⟨⟨_, rfl, by unfold Told; rw [if_neg (by decide), if_neg (by decide), if_neg (by decide), if_neg (by decide), if_neg (by decide), if_neg (by decide), if_neg (by decide), if_pos rfl] <;> exact (eP _ hc)⟩, fun _ _ _ _ => rfl⟩)
    · refine Wk.tabIn (dflt := 218) (lo := 0) (hi := 14) (offs := #[75, 83, 91, 99, 107, 115, 123, 138, 146, 166, 174, 185, 193, 205, 213]) (len := 75) (off := 146) (t := 147) (by decide +kernel) (by decide) (by decide) (by decide) (by decide) (by decide) ?_
      refine Wk.aload_n (k := 0) (q := 148) (by decide +kernel) rfl rfl rfl ?_
      refine Wk.getR (r := 122) (q := 151) f_Sw_26 (by decide +kernel) O_0 (by decide) rfl rfl rfl ?_
      refine Wk.aload_n (k := 0) (q := 152) (by decide +kernel) rfl rfl rfl ?_
      refine Wk.getR (r := 1) (q := 155) f_Sw_12 (by decide +kernel) O_0 (by decide) rfl rfl rfl ?_
      refine Wk.cV (q := 158) l_Sw_76 m_Sear_settlesAll (by decide +kernel) (fun _ h => h) O_122 rfl (Nat.le_of_ble_eq_true rfl) (Nat.le_of_ble_eq_true rfl) rfl (c_Sear_settlesAll hC) rfl (fun v I1 L1 hP => ?_)
      obtain ⟨hv, q1⟩ := hP
      obtain ⟨z, hz, hz2⟩ : ∃ z : Int, (z = 0 ∨ z = 1) ∧ v = some (vi z) := by
        rcases hv with ⟨rfl, -⟩ | ⟨rfl, -⟩
        · exact ⟨1, Or.inr rfl, rfl⟩
        · exact ⟨0, Or.inl rfl, rfl⟩
      subst hz2
      have hbz : z = bi (Exr (zG I 0 (fun i => 5 + i)) (zK I (fun i => 5 + i)) (I 149 5).toNat 0 (fun _ => 0)) := by
        rcases hv with ⟨hv, hx⟩ | ⟨hv, hx⟩
        · have : z = 1 := by injection hv with hv; injection hv
          rw [this, bi_t]; exact (eAll I hc).mp (Lea_ex _ 0 _ (by omega) hx |> fun w => (Exr_pre (by omega) (fun j j0 j1 => by omega)).mp w)
        · have : z = 0 := by injection hv with hv; injection hv
          rw [this, bi_f]; exact fun w => hx ((eAll I hc).mpr w)
      refine Wk.if_eq (off := (7)) (t := 165) (q := 161) (by decide +kernel) (by decide) rfl (by first | omega | exact bi_rng _) (fun hc158 => ?_) (fun hc158 => ?_)
      · refine Wk.iconst (n := 0) (q := 166) (by decide +kernel) rfl ?_
        exact Wk.riP (by decide +kernel) rfl (⟨⟨_, rfl, by unfold Told; rw [if_neg (by decide), if_neg (by decide), if_neg (by decide), if_neg (by decide), if_neg (by decide), if_neg (by decide), if_neg (by decide), if_neg (by decide), if_pos rfl] <;> exact (by omega)⟩, q1⟩)
      · refine Wk.iconst (n := 1) (q := 162) (by decide +kernel) rfl ?_
        refine Wk.goto (off := (4)) (q := 166) (by decide +kernel) (by decide) ?_
        exact Wk.riP (by decide +kernel) rfl (⟨⟨_, rfl, by unfold Told; rw [if_neg (by decide), if_neg (by decide), if_neg (by decide), if_neg (by decide), if_neg (by decide), if_neg (by decide), if_neg (by decide), if_neg (by decide), if_pos rfl] <;> exact (by omega)⟩, q1⟩)
    · refine Wk.tabIn (dflt := 218) (lo := 0) (hi := 14) (offs := #[75, 83, 91, 99, 107, 115, 123, 138, 146, 166, 174, 185, 193, 205, 213]) (len := 75) (off := 166) (t := 167) (by decide +kernel) (by decide) (by decide) (by decide) (by decide) (by decide) ?_
      refine Wk.aload_n (k := 0) (q := 168) (by decide +kernel) rfl rfl rfl ?_
      refine Wk.getR (r := 1) (q := 171) f_Sw_12 (by decide +kernel) O_0 (by decide) rfl rfl rfl ?_
      refine Wk.cSi (q := 174) l_Sw_80 m_Swing_threats (by decide +kernel) (fun _ h => h) (Nat.le_of_ble_eq_true rfl) (Nat.le_of_ble_eq_true rfl) rfl (c_Swing_threats hC) rfl ?_
      exact Wk.riP (by decide +kernel) rfl (⟨⟨_, rfl, by unfold Told; rw [if_neg (by decide), if_neg (by decide), if_neg (by decide), if_neg (by decide), if_neg (by decide), if_neg (by decide), if_neg (by decide), if_neg (by decide), if_neg (by decide), if_pos rfl] <;> exact (eTh hc)⟩, fun _ _ _ _ => rfl⟩)
    · refine Wk.tabIn (dflt := 218) (lo := 0) (hi := 14) (offs := #[75, 83, 91, 99, 107, 115, 123, 138, 146, 166, 174, 185, 193, 205, 213]) (len := 75) (off := 174) (t := 175) (by decide +kernel) (by decide) (by decide) (by decide) (by decide) (by decide) ?_
      refine Wk.aload_n (k := 0) (q := 176) (by decide +kernel) rfl rfl rfl ?_
      refine Wk.getR (r := 1) (q := 179) f_Sw_12 (by decide +kernel) O_0 (by decide) rfl rfl rfl ?_
      refine Wk.cS (q := 182) l_Sw_83 m_Swing_sweptByAll (by decide +kernel) (fun _ h => h) (Nat.le_of_ble_eq_true rfl) (Nat.le_of_ble_eq_true rfl) rfl (c_Swing_sweptByAll hC) rfl (fun v I1 L1 hP => ?_)
      obtain ⟨⟨u, rfl, hu⟩, rfl, rfl⟩ := hP
      refine Wk.cSi (q := 185) l_Sw_87 m_Long_bitCount (by decide +kernel) (fun _ h => h) (Nat.le_of_ble_eq_true rfl) (Nat.le_of_ble_eq_true rfl) rfl (c_Long_bitCount) rfl ?_
      exact Wk.riP (by decide +kernel) rfl (⟨⟨_, rfl, by unfold Told; rw [if_neg (by decide), if_neg (by decide), if_neg (by decide), if_neg (by decide), if_neg (by decide), if_neg (by decide), if_neg (by decide), if_neg (by decide), if_neg (by decide), if_neg (by decide), if_pos rfl] <;> exact (eSwA _ hc hu)⟩, fun _ _ _ _ => rfl⟩)
    · refine Wk.tabIn (dflt := 218) (lo := 0) (hi := 14) (offs := #[75, 83, 91, 99, 107, 115, 123, 138, 146, 166, 174, 185, 193, 205, 213]) (len := 75) (off := 185) (t := 186) (by decide +kernel) (by decide) (by decide) (by decide) (by decide) (by decide) ?_
      refine Wk.aload_n (k := 0) (q := 187) (by decide +kernel) rfl rfl rfl ?_
      refine Wk.getR (r := 128) (q := 190) f_Sw_33 (by decide +kernel) O_0 (by decide) rfl rfl rfl ?_
      refine Wk.getI (z := 2) (q := 193) f_Sw_93 (by decide +kernel) O_128 (by decide) rfl rfl rfl ?_
      exact Wk.riP (by decide +kernel) rfl (⟨⟨_, rfl, by unfold Told; rw [if_neg (by decide), if_neg (by decide), if_neg (by decide), if_neg (by decide), if_neg (by decide), if_neg (by decide), if_neg (by decide), if_neg (by decide), if_neg (by decide), if_neg (by decide), if_neg (by decide), if_pos rfl] <;> exact (hI.2.2.2.2.1)⟩, fun _ _ _ _ => rfl⟩)
    · refine Wk.tabIn (dflt := 218) (lo := 0) (hi := 14) (offs := #[75, 83, 91, 99, 107, 115, 123, 138, 146, 166, 174, 185, 193, 205, 213]) (len := 75) (off := 193) (t := 194) (by decide +kernel) (by decide) (by decide) (by decide) (by decide) (by decide) ?_
      refine Wk.aload_n (k := 0) (q := 195) (by decide +kernel) rfl rfl rfl ?_
      refine Wk.getR (r := 128) (q := 198) f_Sw_33 (by decide +kernel) O_0 (by decide) rfl rfl rfl ?_
      refine Wk.aload_n (k := 0) (q := 199) (by decide +kernel) rfl rfl rfl ?_
      refine Wk.getR (r := 1) (q := 202) f_Sw_12 (by decide +kernel) O_0 (by decide) rfl rfl rfl ?_
      refine Wk.cV (q := 205) l_Sw_96 m_Book_firstWrong (by decide +kernel) (fun _ h => h) O_128 rfl (Nat.le_of_ble_eq_true rfl) (Nat.le_of_ble_eq_true rfl) rfl (c_Book_firstWrong hC (by have := hI.2.2.2.2; unfold Bk MBk at this; omega) (fun k k0 k1 => by have hb := hI.2.2.2.2; have e := hb.2.2 k k0 (by rw [← hb.1]; exact k1); rw [e.1, e.2]; exact hb.2.1.2 k k0 (by rw [← hb.1]; exact k1))) rfl (fun v I1 L1 hP => ?_)
      obtain ⟨⟨z, rfl, hz⟩, rfl, rfl⟩ := hP
      exact Wk.riP (by decide +kernel) rfl (⟨⟨_, rfl, by unfold Told; rw [if_neg (by decide), if_neg (by decide), if_neg (by decide), if_neg (by decide), if_neg (by decide), if_neg (by decide), if_neg (by decide), if_neg (by decide), if_neg (by decide), if_neg (by decide), if_neg (by decide), if_neg (by decide), if_pos rfl] <;> exact (by rw [← hI.2.2.2.2.1]; exact hz.cong (eBk _ hI))⟩, fun _ _ _ _ => rfl⟩)
    · refine Wk.tabIn (dflt := 218) (lo := 0) (hi := 14) (offs := #[75, 83, 91, 99, 107, 115, 123, 138, 146, 166, 174, 185, 193, 205, 213]) (len := 75) (off := 205) (t := 206) (by decide +kernel) (by decide) (by decide) (by decide) (by decide) (by decide) ?_
      refine Wk.aload_n (k := 0) (q := 207) (by decide +kernel) rfl rfl rfl ?_
      refine Wk.getR (r := 8) (q := 210) f_Sw_19 (by decide +kernel) O_0 (by decide) rfl rfl rfl ?_
      refine Wk.getI (z := 2) (q := 213) f_Sw_99 (by decide +kernel) O_8 (by decide) rfl rfl rfl ?_
      exact Wk.riP (by decide +kernel) rfl (⟨⟨_, rfl, by unfold Told; rw [if_neg (by decide), if_neg (by decide), if_neg (by decide), if_neg (by decide), if_neg (by decide), if_neg (by decide), if_neg (by decide), if_neg (by decide), if_neg (by decide), if_neg (by decide), if_neg (by decide), if_neg (by decide), if_neg (by decide), if_pos rfl] <;> exact (hI.2.1.2.2.1)⟩, fun _ _ _ _ => rfl⟩)
    · refine Wk.tabIn (dflt := 218) (lo := 0) (hi := 14) (offs := #[75, 83, 91, 99, 107, 115, 123, 138, 146, 166, 174, 185, 193, 205, 213]) (len := 75) (off := 213) (t := 214) (by decide +kernel) (by decide) (by decide) (by decide) (by decide) (by decide) ?_
      refine Wk.aload_n (k := 0) (q := 215) (by decide +kernel) rfl rfl rfl ?_
      refine Wk.getI (z := 5) (q := 218) f_Sw_44 (by decide +kernel) O_0 (by decide) rfl rfl rfl ?_
      exact Wk.riP (by decide +kernel) rfl (⟨⟨_, rfl, by unfold Told; rw [if_neg (by decide), if_neg (by decide), if_neg (by decide), if_neg (by decide), if_neg (by decide), if_neg (by decide), if_neg (by decide), if_neg (by decide), if_neg (by decide), if_neg (by decide), if_neg (by decide), if_neg (by decide), if_neg (by decide), if_neg (by decide), if_pos rfl] <;> exact (hI.2.2.2.1.1)⟩, fun _ _ _ _ => rfl⟩)
theorem c_Mod_told {q : Int} (hq : -2147483648 ≤ q ∧ q ≤ 2147483647) (hM : MW I) (hB : MBk I) : Wk xs x_Mod_told (d + 9) 0 0 0 [some (vr 148), some (vi q)] [] X2 I L (p2 fun v I' L' => (∃ z, v = some (vi z) ∧ Told I q z) ∧ Kp I' I ∧ L' = L) := by
  refine Wk.iload_n (k := 1) (q := 1) (by decide +kernel) rfl rfl rfl ?_
  rcases Classical.em (q < 0 ∨ 14 < q) with hsw | hsw
  · refine Wk.tabOut (dflt := 170) (lo := 0) (hi := 14) (offs := #[75, 82, 89, 96, 103, 110, 117, 122, 127, 140, 145, 150, 155, 160, 165]) (len := 75) (t := 171) (by decide +kernel) (hq) hsw (by decide) ?_
    refine Wk.ldc (z := (-1000000002)) (q := 173) k_Mod_159 (by decide +kernel) (by decide +kernel) rfl ?_
    exact Wk.riP (by decide +kernel) rfl (⟨⟨_, rfl, by unfold Told; rw [if_neg (by omega), if_neg (by omega), if_neg (by omega), if_neg (by omega), if_neg (by omega), if_neg (by omega), if_neg (by omega), if_neg (by omega), if_neg (by omega), if_neg (by omega), if_neg (by omega), if_neg (by omega), if_neg (by omega), if_neg (by omega), if_neg (by omega)]⟩, Kp.refl _, rfl⟩)
  · have hsx : q = 0 ∨ q = 1 ∨ q = 2 ∨ q = 3 ∨ q = 4 ∨ q = 5 ∨ q = 6 ∨ q = 7 ∨ q = 8 ∨ q = 9 ∨ q = 10 ∨ q = 11 ∨ q = 12 ∨ q = 13 ∨ q = 14 := by omega
    rcases hsx with rfl | rfl | rfl | rfl | rfl | rfl | rfl | rfl | rfl | rfl | rfl | rfl | rfl | rfl | rfl
    · refine Wk.tabIn (dflt := 170) (lo := 0) (hi := 14) (offs := #[75, 82, 89, 96, 103, 110, 117, 122, 127, 140, 145, 150, 155, 160, 165]) (len := 75) (off := 75) (t := 76) (by decide +kernel) (by decide) (by decide) (by decide) (by decide) (by decide) ?_
      refine Wk.aload_n (k := 0) (q := 77) (by decide +kernel) rfl rfl rfl ?_
      refine Wk.getR (r := 149) (q := 80) f_Mod_7 (by decide +kernel) O_148 (by decide) rfl rfl rfl ?_
      refine Wk.iconst (n := 0) (q := 81) (by decide +kernel) rfl ?_
      refine Wk.iaload (q := 82) (by decide +kernel) A_149 (by first | omega | exact bi_rng _) (by first | omega | exact bi_rng _) rfl ?_
      exact Wk.riP (by decide +kernel) rfl (⟨⟨_, rfl, by unfold Told; rw [if_pos rfl] <;> exact (rfl)⟩, Kp.refl _, rfl⟩)
    · refine Wk.tabIn (dflt := 170) (lo := 0) (hi := 14) (offs := #[75, 82, 89, 96, 103, 110, 117, 122, 127, 140, 145, 150, 155, 160, 165]) (len := 75) (off := 82) (t := 83) (by decide +kernel) (by decide) (by decide) (by decide) (by decide) (by decide) ?_
      refine Wk.aload_n (k := 0) (q := 84) (by decide +kernel) rfl rfl rfl ?_
      refine Wk.getR (r := 149) (q := 87) f_Mod_7 (by decide +kernel) O_148 (by decide) rfl rfl rfl ?_
      refine Wk.iconst (n := 1) (q := 88) (by decide +kernel) rfl ?_
      refine Wk.iaload (q := 89) (by decide +kernel) A_149 (by first | omega | exact bi_rng _) (by first | omega | exact bi_rng _) rfl ?_
      exact Wk.riP (by decide +kernel) rfl (⟨⟨_, rfl, by unfold Told; rw [if_neg (by decide), if_pos rfl] <;> exact (rfl)⟩, Kp.refl _, rfl⟩)
    · refine Wk.tabIn (dflt := 170) (lo := 0) (hi := 14) (offs := #[75, 82, 89, 96, 103, 110, 117, 122, 127, 140, 145, 150, 155, 160, 165]) (len := 75) (off := 89) (t := 90) (by decide +kernel) (by decide) (by decide) (by decide) (by decide) (by decide) ?_
      refine Wk.aload_n (k := 0) (q := 91) (by decide +kernel) rfl rfl rfl ?_
      refine Wk.getR (r := 149) (q := 94) f_Mod_7 (by decide +kernel) O_148 (by decide) rfl rfl rfl ?_
      refine Wk.iconst (n := 2) (q := 95) (by decide +kernel) rfl ?_
      refine Wk.iaload (q := 96) (by decide +kernel) A_149 (by first | omega | exact bi_rng _) (by first | omega | exact bi_rng _) rfl ?_
      exact Wk.riP (by decide +kernel) rfl (⟨⟨_, rfl, by unfold Told; rw [if_neg (by decide), if_neg (by decide), if_pos rfl] <;> exact (rfl)⟩, Kp.refl _, rfl⟩)
    · refine Wk.tabIn (dflt := 170) (lo := 0) (hi := 14) (offs := #[75, 82, 89, 96, 103, 110, 117, 122, 127, 140, 145, 150, 155, 160, 165]) (len := 75) (off := 96) (t := 97) (by decide +kernel) (by decide) (by decide) (by decide) (by decide) (by decide) ?_
      refine Wk.aload_n (k := 0) (q := 98) (by decide +kernel) rfl rfl rfl ?_
      refine Wk.getR (r := 149) (q := 101) f_Mod_7 (by decide +kernel) O_148 (by decide) rfl rfl rfl ?_
      refine Wk.iconst (n := 3) (q := 102) (by decide +kernel) rfl ?_
      refine Wk.iaload (q := 103) (by decide +kernel) A_149 (by first | omega | exact bi_rng _) (by first | omega | exact bi_rng _) rfl ?_
      exact Wk.riP (by decide +kernel) rfl (⟨⟨_, rfl, by unfold Told; rw [if_neg (by decide), if_neg (by decide), if_neg (by decide), if_pos rfl] <;> exact (rfl)⟩, Kp.refl _, rfl⟩)
    · refine Wk.tabIn (dflt := 170) (lo := 0) (hi := 14) (offs := #[75, 82, 89, 96, 103, 110, 117, 122, 127, 140, 145, 150, 155, 160, 165]) (len := 75) (off := 103) (t := 104) (by decide +kernel) (by decide) (by decide) (by decide) (by decide) (by decide) ?_
      refine Wk.aload_n (k := 0) (q := 105) (by decide +kernel) rfl rfl rfl ?_
      refine Wk.getR (r := 149) (q := 108) f_Mod_7 (by decide +kernel) O_148 (by decide) rfl rfl rfl ?_
      refine Wk.iconst (n := 4) (q := 109) (by decide +kernel) rfl ?_
      refine Wk.iaload (q := 110) (by decide +kernel) A_149 (by first | omega | exact bi_rng _) (by first | omega | exact bi_rng _) rfl ?_
      exact Wk.riP (by decide +kernel) rfl (⟨⟨_, rfl, by unfold Told; rw [if_neg (by decide), if_neg (by decide), if_neg (by decide), if_neg (by decide), if_pos rfl] <;> exact (rfl)⟩, Kp.refl _, rfl⟩)
    · refine Wk.tabIn (dflt := 170) (lo := 0) (hi := 14) (offs := #[75, 82, 89, 96, 103, 110, 117, 122, 127, 140, 145, 150, 155, 160, 165]) (len := 75) (off := 110) (t := 111) (by decide +kernel) (by decide) (by decide) (by decide) (by decide) (by decide) ?_
      refine Wk.aload_n (k := 0) (q := 112) (by decide +kernel) rfl rfl rfl ?_
      refine Wk.getR (r := 149) (q := 115) f_Mod_7 (by decide +kernel) O_148 (by decide) rfl rfl rfl ?_
      refine Wk.iconst (n := 5) (q := 116) (by decide +kernel) rfl ?_
      refine Wk.iaload (q := 117) (by decide +kernel) A_149 (by first | omega | exact bi_rng _) (by first | omega | exact bi_rng _) rfl ?_
      exact Wk.riP (by decide +kernel) rfl (⟨⟨_, rfl, by unfold Told; rw [if_neg (by decide), if_neg (by decide), if_neg (by decide), if_neg (by decide), if_neg (by decide), if_pos rfl] <;> exact (rfl)⟩, Kp.refl _, rfl⟩)
    · refine Wk.tabIn (dflt := 170) (lo := 0) (hi := 14) (offs := #[75, 82, 89, 96, 103, 110, 117, 122, 127, 140, 145, 150, 155, 160, 165]) (len := 75) (off := 117) (t := 118) (by decide +kernel) (by decide) (by decide) (by decide) (by decide) (by decide) ?_
      refine Wk.aload_n (k := 0) (q := 119) (by decide +kernel) rfl rfl rfl ?_
      refine Wk.cVi (q := 122) l_Mod_93 m_Mod_danger (by decide +kernel) (fun _ h => h) O_148 rfl (Nat.le_of_ble_eq_true rfl) (Nat.le_of_ble_eq_true rfl) rfl (c_Mod_danger hM) rfl ?_
      exact Wk.riP (by decide +kernel) rfl (⟨⟨_, rfl, by unfold Told; rw [if_neg (by decide), if_neg (by decide), if_neg (by decide), if_neg (by decide), if_neg (by decide), if_neg (by decide), if_pos rfl] <;> exact (rfl)⟩, Kp.refl _, rfl⟩)
    · refine Wk.tabIn (dflt := 170) (lo := 0) (hi := 14) (offs := #[75, 82, 89, 96, 103, 110, 117, 122, 127, 140, 145, 150, 155, 160, 165]) (len := 75) (off := 122) (t := 123) (by decide +kernel) (by decide) (by decide) (by decide) (by decide) (by decide) ?_
      refine Wk.aload_n (k := 0) (q := 124) (by decide +kernel) rfl rfl rfl ?_
      refine Wk.cVi (q := 127) l_Mod_137 m_Mod_clashPairs (by decide +kernel) (fun _ h => h) O_148 rfl (Nat.le_of_ble_eq_true rfl) (Nat.le_of_ble_eq_true rfl) rfl (c_Mod_clashPairs hM) rfl ?_
      exact Wk.riP (by decide +kernel) rfl (⟨⟨_, rfl, by unfold Told; rw [if_neg (by decide), if_neg (by decide), if_neg (by decide), if_neg (by decide), if_neg (by decide), if_neg (by decide), if_neg (by decide), if_pos rfl] <;> exact (rfl)⟩, Kp.refl _, rfl⟩)
    · refine Wk.tabIn (dflt := 170) (lo := 0) (hi := 14) (offs := #[75, 82, 89, 96, 103, 110, 117, 122, 127, 140, 145, 150, 155, 160, 165]) (len := 75) (off := 127) (t := 128) (by decide +kernel) (by decide) (by decide) (by decide) (by decide) (by decide) ?_
      refine Wk.aload_n (k := 0) (q := 129) (by decide +kernel) rfl rfl rfl ?_
      refine Wk.cV (q := 132) l_Mod_140 m_Mod_placesForAll (by decide +kernel) (fun _ h => h) O_148 rfl (Nat.le_of_ble_eq_true rfl) (Nat.le_of_ble_eq_true rfl) rfl (c_Mod_placesForAll hM) rfl (fun v I1 L1 hP => ?_)
      obtain ⟨hv, q1, rfl⟩ := hP
      obtain ⟨z, hz, hz2⟩ : ∃ z : Int, (z = 0 ∨ z = 1) ∧ v = some (vi z) := by
        rcases hv with ⟨rfl, -⟩ | ⟨rfl, -⟩
        · exact ⟨1, Or.inr rfl, rfl⟩
        · exact ⟨0, Or.inl rfl, rfl⟩
      subst hz2
      have hbz : z = bi (Exr (zG I 0 (fun i => 5 + i)) (zK I (fun i => 5 + i)) (I 149 5).toNat 0 (fun _ => 0)) := by
        rcases hv with ⟨hv, hx⟩ | ⟨hv, hx⟩
        · have : z = 1 := by injection hv with hv; injection hv
          rw [this, bi_t]; exact (Lea_ex _ 0 _ (by omega) hx |> fun w => (Exr_pre (by omega) (fun j j0 j1 => by omega)).mp w)
        · have : z = 0 := by injection hv with hv; injection hv
          rw [this, bi_f]; exact hx
      refine Wk.if_eq (off := (7)) (t := 139) (q := 135) (by decide +kernel) (by decide) rfl (by first | omega | exact bi_rng _) (fun hc132 => ?_) (fun hc132 => ?_)
      · refine Wk.iconst (n := 0) (q := 140) (by decide +kernel) rfl ?_
        exact Wk.riP (by decide +kernel) rfl (⟨⟨_, rfl, by unfold Told; rw [if_neg (by decide), if_neg (by decide), if_neg (by decide), if_neg (by decide), if_neg (by decide), if_neg (by decide), if_neg (by decide), if_neg (by decide), if_pos rfl] <;> exact (by omega)⟩, q1, rfl⟩)
      · refine Wk.iconst (n := 1) (q := 136) (by decide +kernel) rfl ?_
        refine Wk.goto (off := (4)) (q := 140) (by decide +kernel) (by decide) ?_
        exact Wk.riP (by decide +kernel) rfl (⟨⟨_, rfl, by unfold Told; rw [if_neg (by decide), if_neg (by decide), if_neg (by decide), if_neg (by decide), if_neg (by decide), if_neg (by decide), if_neg (by decide), if_neg (by decide), if_pos rfl] <;> exact (by omega)⟩, q1, rfl⟩)
    · refine Wk.tabIn (dflt := 170) (lo := 0) (hi := 14) (offs := #[75, 82, 89, 96, 103, 110, 117, 122, 127, 140, 145, 150, 155, 160, 165]) (len := 75) (off := 140) (t := 141) (by decide +kernel) (by decide) (by decide) (by decide) (by decide) (by decide) ?_
      refine Wk.aload_n (k := 0) (q := 142) (by decide +kernel) rfl rfl rfl ?_
      refine Wk.cVi (q := 145) l_Mod_144 m_Mod_threats (by decide +kernel) (fun _ h => h) O_148 rfl (Nat.le_of_ble_eq_true rfl) (Nat.le_of_ble_eq_true rfl) rfl (c_Mod_threats hM) rfl ?_
      exact Wk.riP (by decide +kernel) rfl (⟨⟨_, rfl, by unfold Told; rw [if_neg (by decide), if_neg (by decide), if_neg (by decide), if_neg (by decide), if_neg (by decide), if_neg (by decide), if_neg (by decide), if_neg (by decide), if_neg (by decide), if_pos rfl] <;> exact (rfl)⟩, Kp.refl _, rfl⟩)
    · refine Wk.tabIn (dflt := 170) (lo := 0) (hi := 14) (offs := #[75, 82, 89, 96, 103, 110, 117, 122, 127, 140, 145, 150, 155, 160, 165]) (len := 75) (off := 145) (t := 146) (by decide +kernel) (by decide) (by decide) (by decide) (by decide) (by decide) ?_
      refine Wk.aload_n (k := 0) (q := 147) (by decide +kernel) rfl rfl rfl ?_
      refine Wk.cVi (q := 150) l_Mod_147 m_Mod_swept (by decide +kernel) (fun _ h => h) O_148 rfl (Nat.le_of_ble_eq_true rfl) (Nat.le_of_ble_eq_true rfl) rfl (c_Mod_swept hM) rfl ?_
      exact Wk.riP (by decide +kernel) rfl (⟨⟨_, rfl, by unfold Told; rw [if_neg (by decide), if_neg (by decide), if_neg (by decide), if_neg (by decide), if_neg (by decide), if_neg (by decide), if_neg (by decide), if_neg (by decide), if_neg (by decide), if_neg (by decide), if_pos rfl] <;> exact (rfl)⟩, Kp.refl _, rfl⟩)
    · refine Wk.tabIn (dflt := 170) (lo := 0) (hi := 14) (offs := #[75, 82, 89, 96, 103, 110, 117, 122, 127, 140, 145, 150, 155, 160, 165]) (len := 75) (off := 150) (t := 151) (by decide +kernel) (by decide) (by decide) (by decide) (by decide) (by decide) ?_
      refine Wk.aload_n (k := 0) (q := 152) (by decide +kernel) rfl rfl rfl ?_
      refine Wk.getI (z := 7) (q := 155) f_Mod_131 (by decide +kernel) O_148 (by decide) rfl rfl rfl ?_
      exact Wk.riP (by decide +kernel) rfl (⟨⟨_, rfl, by unfold Told; rw [if_neg (by decide), if_neg (by decide), if_neg (by decide), if_neg (by decide), if_neg (by decide), if_neg (by decide), if_neg (by decide), if_neg (by decide), if_neg (by decide), if_neg (by decide), if_neg (by decide), if_pos rfl] <;> exact (rfl)⟩, Kp.refl _, rfl⟩)
    · refine Wk.tabIn (dflt := 170) (lo := 0) (hi := 14) (offs := #[75, 82, 89, 96, 103, 110, 117, 122, 127, 140, 145, 150, 155, 160, 165]) (len := 75) (off := 155) (t := 156) (by decide +kernel) (by decide) (by decide) (by decide) (by decide) (by decide) ?_
      refine Wk.aload_n (k := 0) (q := 157) (by decide +kernel) rfl rfl rfl ?_
      refine Wk.cV (q := 160) l_Mod_150 m_Mod_wrongEntry (by decide +kernel) (fun _ h => h) O_148 rfl (Nat.le_of_ble_eq_true rfl) (Nat.le_of_ble_eq_true rfl) rfl (c_Mod_wrongEntry hM hB) rfl (fun v I1 L1 hP => ?_)
      obtain ⟨⟨z, rfl, hz⟩, rfl, rfl⟩ := hP
      exact Wk.riP (by decide +kernel) rfl (⟨⟨_, rfl, by unfold Told; rw [if_neg (by decide), if_neg (by decide), if_neg (by decide), if_neg (by decide), if_neg (by decide), if_neg (by decide), if_neg (by decide), if_neg (by decide), if_neg (by decide), if_neg (by decide), if_neg (by decide), if_neg (by decide), if_pos rfl] <;> exact (hz)⟩, Kp.refl _, rfl⟩)
    · refine Wk.tabIn (dflt := 170) (lo := 0) (hi := 14) (offs := #[75, 82, 89, 96, 103, 110, 117, 122, 127, 140, 145, 150, 155, 160, 165]) (len := 75) (off := 160) (t := 161) (by decide +kernel) (by decide) (by decide) (by decide) (by decide) (by decide) ?_
      refine Wk.aload_n (k := 0) (q := 162) (by decide +kernel) rfl rfl rfl ?_
      refine Wk.getI (z := 1) (q := 165) f_Mod_153 (by decide +kernel) O_148 (by decide) rfl rfl rfl ?_
      exact Wk.riP (by decide +kernel) rfl (⟨⟨_, rfl, by unfold Told; rw [if_neg (by decide), if_neg (by decide), if_neg (by decide), if_neg (by decide), if_neg (by decide), if_neg (by decide), if_neg (by decide), if_neg (by decide), if_neg (by decide), if_neg (by decide), if_neg (by decide), if_neg (by decide), if_neg (by decide), if_pos rfl] <;> exact (rfl)⟩, Kp.refl _, rfl⟩)
    · refine Wk.tabIn (dflt := 170) (lo := 0) (hi := 14) (offs := #[75, 82, 89, 96, 103, 110, 117, 122, 127, 140, 145, 150, 155, 160, 165]) (len := 75) (off := 165) (t := 166) (by decide +kernel) (by decide) (by decide) (by decide) (by decide) (by decide) ?_
      refine Wk.aload_n (k := 0) (q := 167) (by decide +kernel) rfl rfl rfl ?_
      refine Wk.getI (z := 3) (q := 170) f_Mod_156 (by decide +kernel) O_148 (by decide) rfl rfl rfl ?_
      exact Wk.riP (by decide +kernel) rfl (⟨⟨_, rfl, by unfold Told; rw [if_neg (by decide), if_neg (by decide), if_neg (by decide), if_neg (by decide), if_neg (by decide), if_neg (by decide), if_neg (by decide), if_neg (by decide), if_neg (by decide), if_neg (by decide), if_neg (by decide), if_neg (by decide), if_neg (by decide), if_neg (by decide), if_pos rfl] <;> exact (rfl)⟩, Kp.refl _, rfl⟩)
end TLD
theorem Told_det {I : IM} {q z u : Int} (h : Told I q z) (g : Told I q u) : z = u := by
  unfold Told at h g
  by_cases q0 : q = 0
  · rw [if_pos q0] at h g
    rw [h, g]
  by_cases q1 : q = 1
  · rw [if_neg q0, if_pos q1] at h g
    rw [h, g]
  by_cases q2 : q = 2
  · rw [if_neg q0, if_neg q1, if_pos q2] at h g
    rw [h, g]
  by_cases q3 : q = 3
  · rw [if_neg q0, if_neg q1, if_neg q2, if_pos q3] at h g
    rw [h, g]
  by_cases q4 : q = 4
  · rw [if_neg q0, if_neg q1, if_neg q2, if_neg q3, if_pos q4] at h g
    rw [h, g]
  by_cases q5 : q = 5
  · rw [if_neg q0, if_neg q1, if_neg q2, if_neg q3, if_neg q4, if_pos q5] at h g
    rw [h, g]
  by_cases q6 : q = 6
  · rw [if_neg q0, if_neg q1, if_neg q2, if_neg q3, if_neg q4, if_neg q5, if_pos q6] at h g
    rw [h, g]
  by_cases q7 : q = 7
  · rw [if_neg q0, if_neg q1, if_neg q2, if_neg q3, if_neg q4, if_neg q5, if_neg q6, if_pos q7] at h g
    rw [h, g]
  by_cases q8 : q = 8
  · rw [if_neg q0, if_neg q1, if_neg q2, if_neg q3, if_neg q4, if_neg q5, if_neg q6, if_neg q7, if_pos q8] at h g
    rw [h, g]
  by_cases q9 : q = 9
  · rw [if_neg q0, if_neg q1, if_neg q2, if_neg q3, if_neg q4, if_neg q5, if_neg q6, if_neg q7, if_neg q8, if_pos q9] at h g
    rw [h, g]
  by_cases q10 : q = 10
  · rw [if_neg q0, if_neg q1, if_neg q2, if_neg q3, if_neg q4, if_neg q5, if_neg q6, if_neg q7, if_neg q8, if_neg q9, if_pos q10] at h g
    rw [h, g]
  by_cases q11 : q = 11
  · rw [if_neg q0, if_neg q1, if_neg q2, if_neg q3, if_neg q4, if_neg q5, if_neg q6, if_neg q7, if_neg q8, if_neg q9, if_neg q10, if_pos q11] at h g
    rw [h, g]
  by_cases q12 : q = 12
  · rw [if_neg q0, if_neg q1, if_neg q2, if_neg q3, if_neg q4, if_neg q5, if_neg q6, if_neg q7, if_neg q8, if_neg q9, if_neg q10, if_neg q11, if_pos q12] at h g
    exact h.uniq g
  by_cases q13 : q = 13
  · rw [if_neg q0, if_neg q1, if_neg q2, if_neg q3, if_neg q4, if_neg q5, if_neg q6, if_neg q7, if_neg q8, if_neg q9, if_neg q10, if_neg q11, if_neg q12, if_pos q13] at h g
    rw [h, g]
  by_cases q14 : q = 14
  · rw [if_neg q0, if_neg q1, if_neg q2, if_neg q3, if_neg q4, if_neg q5, if_neg q6, if_neg q7, if_neg q8, if_neg q9, if_neg q10, if_neg q11, if_neg q12, if_neg q13, if_pos q14] at h g
    rw [h, g]
  rw [if_neg q0, if_neg q1, if_neg q2, if_neg q3, if_neg q4, if_neg q5, if_neg q6, if_neg q7, if_neg q8, if_neg q9, if_neg q10, if_neg q11, if_neg q12, if_neg q13, if_neg q14] at h g
  rw [h, g]
theorem Told_eq {I' I : IM} (h1 : I' 149 = I 149) (h2 : I' 148 = I 148) (h3 : I' 151 = I 151) (h4 : I' 152 = I 152) {q z : Int} : Told I' q z ↔ Told I q z := by
  unfold Told mDG mDP mCa mML mCL mSW
  rw [zG_eq h1, zK_eq h1, h1, h2, h3, h4]
