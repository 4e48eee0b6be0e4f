/-! WHAT IS SO: cells, ships, how ships lie -/
def CelQ (I : IM) (x y q z : Int) : Prop := if q = 0 then z = I 149 (6 + (y * I 149 0 + x)) else if q = 1 then z = mwat I x y else if q = 2 then z = so (fun a => mSW I (55 + 4 * a) (I 149 (55 + 4 * a + 3)) x y) (I 149 4).toNat else if q = 3 then z = so (fun k => mFr I (75 + 4 * k) 0 (y * I 149 0 + x)) (I 149 5).toNat else z = -1000000002
def CelS (I : IM) (x y q z : Int) : Prop := (¬ inE (I 149 0) (I 149 1) x y ∧ z = -1000000001) ∨ (inE (I 149 0) (I 149 1) x y ∧ CelQ I x y q z)
def ShpQ (I : IM) (a q z : Int) : Prop := if q = 0 then z = I 149 (55 + 4 * a) else if q = 1 then z = I 149 (55 + 4 * a + 1) else if q = 2 then z = I 149 (55 + 4 * a + 2) else if q = 3 then z = I 149 (55 + 4 * a + 3) else if q = 4 then z = ct (fun c => bt (so (fun a => mSW I (55 + 4 * a) (I 149 (55 + 4 * a + 3)) (c % I 149 0) (c / I 149 0)) (I 149 4).toNat) a = true) (I 149 0 * I 149 1).toNat else if q = 5 then z = so (fun b => ¬ a = b ∧ mCa I (I 149 3) a b) (I 149 4).toNat else if q = 6 then z = bi (mML I (I 149 3) (55 + 4 * a) (I 149 (55 + 4 * a + 3))) else if q = 7 then ∃ m, MinOf 100 (fun v => ∃ u cx cy, (0 ≤ u ∧ u < 8) ∧ bt (I 149 3) u = true ∧ mLO I (55 + 4 * a) (I 149 (55 + 4 * a + 3)) u cx cy ∧ v = mval I 1 cx cy) m ∧ z = m - I 149 (55 + 4 * a) + 100 else z = -1000000002
def ShpS (I : IM) (a q z : Int) : Prop := (¬ (0 ≤ a ∧ a < I 149 4) ∧ z = -1000000001) ∨ ((0 ≤ a ∧ a < I 149 4) ∧ ShpQ I a q z)
def LieS (I : IM) (a w x y z : Int) : Prop := (¬ ((0 ≤ a ∧ a < I 149 4) ∧ inE (I 149 0) (I 149 1) x y) ∧ z = -1000000001) ∨ (((0 ≤ a ∧ a < I 149 4) ∧ inE (I 149 0) (I 149 1) x y) ∧ ((¬ (0 ≤ w ∧ w ≤ 7) ∧ z = -1000000002) ∨ ((0 ≤ w ∧ w ≤ 7) ∧ z = bi (mLO I (55 + 4 * a) (I 149 (55 + 4 * a + 3)) w x y))))
theorem eFc {I : IM} (h : Cur I) {s mv x y : Int} (hs : Slot1 I s) (hi : inE (I 1 0) (I 1 1) x y) : mFr I (55 + 4 * s) mv (y * I 1 0 + x) ↔ cLeft I s mv x y := by
  obtain ⟨hW, hH, -⟩ := h.1.1
  have hi2 := hi
  obtain ⟨x0, x1, y0, y1⟩ := hi2
  have d2 := divmod (W := I 1 0) (y := y) x0 x1
  constructor
  · intro hf
    have hm : mC I (y * I 1 0 + x) := by
      have := cellB (W := I 1 0) (H := I 1 1) ⟨x0, x1⟩ ⟨y0, y1⟩
      unfold mC
      rw [h.w0, h.h1]
      exact ⟨this.1, this.2.1⟩
    obtain ⟨t, ⟨t0, hl⟩, e⟩ := (eFr h hs).mp ⟨hm, hf⟩
    have d1 := fsp_dm (W := I 1 0) (s := t) hl.1.1.2.1
    rw [← e, d2.1, d2.2] at d1
    rw [d1.1, d1.2]
    exact hl
  · intro hl
    have e1 : (y * 8 + x) % 8 = x := by omega
    have e2 : (y * 8 + x) / 8 = y := by omega
    have := (eFr h (c := y * I 1 0 + x) (mv := mv) hs).mpr ⟨y * 8 + x, ⟨by omega, by rw [e1, e2]; exact hl⟩, by unfold fsp; rw [e1, e2]⟩
    exact this.2
theorem bt_some : ∀ f : Nat, f < 256 → ¬ f = 0 → ∃ w, w < 8 ∧ f.testBit w = true := by decide +kernel
theorem bt_ex {F : Int} (h : 1 ≤ F ∧ F ≤ 255) : ∃ w, (0 ≤ w ∧ w < 8) ∧ bt F w = true := by
  obtain ⟨w, h1, h2⟩ := bt_some F.toNat (by omega) (by omega)
  exact ⟨w, by omega, h2⟩
theorem eMin {I : IM} (h : Cur I) {a z : Int} (a0 : 0 ≤ a) (a1 : a < I 1 4) (hz : MinOf 2147483647 (fun v => ∃ w cx cy, (0 ≤ w ∧ w < 8) ∧ bt (I 1 3) w = true ∧ cLO I a w cx cy ∧ v = cwat I cx cy) z) : MinOf 100 (fun v => ∃ u cx cy, (0 ≤ u ∧ u < 8) ∧ bt (I 149 3) u = true ∧ mLO I (55 + 4 * a) (I 149 (55 + 4 * a + 3)) u cx cy ∧ v = mval I 1 cx cy) z := by
  have hF := h.1.1.2.2.2.1
  obtain ⟨-, -, hsd⟩ := h.1.2.1 a (Or.inl ⟨a0, a1⟩)
  have hP : ∃ w cx cy, (0 ≤ w ∧ w < 8) ∧ bt (I 1 3) w = true ∧ cLO I a w cx cy ∧ z = cwat I cx cy := by
    rcases hz.2 with ⟨-, hn⟩ | hp
    · obtain ⟨w, w0, w1⟩ := bt_ex hF
      exact absurd ⟨w, I 6 a + I 4 a * windX w, I 7 a + I 4 a * windY w, w0, w1, by unfold cLO LO; omega, rfl⟩ (hn _)
    · exact hp
  have e : ∀ v, (∃ w cx cy, (0 ≤ w ∧ w < 8) ∧ bt (I 1 3) w = true ∧ cLO I a w cx cy ∧ v = cwat I cx cy) ↔ ∃ u cx cy, (0 ≤ u ∧ u < 8) ∧ bt (I 149 3) u = true ∧ mLO I (55 + 4 * a) (I 149 (55 + 4 * a + 3)) u cx cy ∧ v = mval I 1 cx cy := by
    intro v
    rw [h.f3]
    constructor
    · rintro ⟨w, cx, cy, q1, q2, q3, q4⟩
      exact ⟨w, cx, cy, q1, q2, (eLO h a0 a1).mpr q3, by rw [mval_in (Or.inr (by decide)), eWat h]; exact q4⟩
    · rintro ⟨w, cx, cy, q1, q2, q3, q4⟩
      refine ⟨w, cx, cy, q1, q2, (eLO h a0 a1).mp q3, ?_⟩
      rw [mval_in (Or.inr (by decide)), eWat h] at q4
      exact q4
  exact ⟨fun v hv => hz.1 v ((e v).mpr hv), Or.inr ((e z).mp hP)⟩
theorem eSwB {I : IM} (h : Cur I) {a : Int} (a0 : 0 ≤ a) (a1 : a < I 1 4) {u : Int64} (hu : LB u (fun cx cy => inE (I 1 0) (I 1 1) cx cy ∧ cSW I (I 1 3) a cx cy)) : ct (fun s => bl u s = true) 64 = ct (fun c => bt (so (fun a => mSW I (55 + 4 * a) (I 149 (55 + 4 * a + 3)) (c % I 149 0) (c / I 149 0)) (I 149 4).toNat) a = true) (I 149 0 * I 149 1).toNat := by
  obtain ⟨hW, hH, -, -, hA, -⟩ := h.1.1
  have hw := h.wh
  refine (LB_ct hu).trans ((ct_both (P := fun cx cy => inE (I 1 0) (I 1 1) cx cy ∧ cSW I (I 1 3) a cx cy) hW hH (fun x y p => p.1)).trans ?_)
  rw [h.w0, h.h1, h.n4]
  refine ct_cong fun c c0 c1 => ?_
  obtain ⟨hx, hy⟩ := mcoord hW.1 c0 (show c < I 1 0 * I 1 1 by omega)
  rw [so_bt a0 (by omega), eSW h a0 a1]
  exact ⟨fun q => q.2, fun q => ⟨⟨hx.1, hx.2, hy.1, hy.2⟩, q⟩⟩
section QCL
variable {xs : RO} {d : Nat} {I : IM} {L : LM}

theorem c_Sw_cell {x y q : Int} (hx : -2147483648 ≤ x ∧ x ≤ 2147483647) (hy : -2147483648 ≤ y ∧ y ≤ 2147483647) (hq : -2147483648 ≤ q ∧ q ≤ 2147483647) (hI : Cur I) : Wk xs x_Sw_cell (d + 8) 0 0 0 [some (vr 0), some (vi x), some (vi y), some (vi q)] [] X2 I L (p2 fun v I' _ => (∃ z, v = some (vi z) ∧ CelS I x y q z) ∧ FrS I' I) := by
  have hc : Cur I := hI
  have hC : CW I := hc.1
  obtain ⟨hW, hH, hT, hF, hA, hB, hD⟩ := id hC.1
  have hw := hc.wh
  refine Wk.aload_n (k := 0) (q := 1) (by decide +kernel) rfl rfl rfl ?_
  refine Wk.getR (r := 1) (q := 4) f_Sw_12 (by decide +kernel) O_0 (by decide) rfl rfl rfl ?_
  refine Wk.iload_n (k := 1) (q := 5) (by decide +kernel) rfl rfl rfl ?_
  refine Wk.iload_n (k := 2) (q := 6) (by decide +kernel) rfl rfl rfl ?_
  refine Wk.cVi (q := 9) l_Sw_103 m_Harb_hasCell (by decide +kernel) (fun _ h => h) O_1 rfl (Nat.le_of_ble_eq_true rfl) (Nat.le_of_ble_eq_true rfl) rfl (c_Harb_hasCell hx hy (by omega) (by omega)) rfl ?_
  refine Wk.ifB_ne (off := (6)) (t := 15) (q := 12) (by decide +kernel) (by decide) rfl (fun hc9 => ?_) (fun hc9 => ?_)
  · have hin : inE (I 149 0) (I 149 1) x y := by rw [hc.w0, hc.h1]; exact hc9
    have hcb := cellB (W := I 1 0) (H := I 1 1) (x := x) (y := y) ⟨hc9.1, hc9.2.1⟩ ⟨hc9.2.2.1, hc9.2.2.2⟩
    refine Wk.iload_n (k := 3) (q := 16) (by decide +kernel) rfl rfl rfl ?_
    rcases Classical.em (q < 0 ∨ 3 < q) with hsw | hsw
    · refine Wk.tabOut (dflt := 82) (lo := 0) (hi := 3) (offs := #[32, 42, 52, 65]) (len := 32) (t := 98) (by decide +kernel) (hq) hsw (by decide) ?_
      refine Wk.ldc (z := (-1000000002)) (q := 100) k_Sw_102 (by decide +kernel) (by decide +kernel) rfl ?_
      exact Wk.riP (by decide +kernel) rfl (⟨⟨_, rfl, Or.inr ⟨hin, by unfold CelQ; rw [if_neg (by omega), if_neg (by omega), if_neg (by omega), if_neg (by omega)]⟩⟩, fun _ _ _ _ => rfl⟩)
    · have hsx : q = 0 ∨ q = 1 ∨ q = 2 ∨ q = 3 := by omega
      rcases hsx with rfl | rfl | rfl | rfl
      · refine Wk.tabIn (dflt := 82) (lo := 0) (hi := 3) (offs := #[32, 42, 52, 65]) (len := 32) (off := 32) (t := 48) (by decide +kernel) (by decide) (by decide) (by decide) (by decide) (by decide) ?_
        refine Wk.aload_n (k := 0) (q := 49) (by decide +kernel) rfl rfl rfl ?_
        refine Wk.getR (r := 1) (q := 52) f_Sw_12 (by decide +kernel) O_0 (by decide) rfl rfl rfl ?_
        refine Wk.iload_n (k := 1) (q := 53) (by decide +kernel) rfl rfl rfl ?_
        refine Wk.iload_n (k := 2) (q := 54) (by decide +kernel) rfl rfl rfl ?_
        refine Wk.cVi (q := 57) l_Sw_108 m_Harb_depthAt (by decide +kernel) (fun _ h => h) O_1 rfl (Nat.le_of_ble_eq_true rfl) (Nat.le_of_ble_eq_true rfl) rfl (c_Harb_depthAt hc9 hC.1) rfl ?_
        exact Wk.riP (by decide +kernel) rfl (⟨⟨_, rfl, Or.inr ⟨hin, by unfold CelQ; rw [if_pos rfl] <;> exact (by rw [hc.w0]; exact hc.2.2.1 _ (by have := hcb.1; omega) (by have := hcb.2.1; omega))⟩⟩, fun _ _ _ _ => rfl⟩)
      · refine Wk.tabIn (dflt := 82) (lo := 0) (hi := 3) (offs := #[32, 42, 52, 65]) (len := 32) (off := 42) (t := 58) (by decide +kernel) (by decide) (by decide) (by decide) (by decide) (by decide) ?_
        refine Wk.aload_n (k := 0) (q := 59) (by decide +kernel) rfl rfl rfl ?_
        refine Wk.getR (r := 1) (q := 62) f_Sw_12 (by decide +kernel) O_0 (by decide) rfl rfl rfl ?_
        refine Wk.iload_n (k := 1) (q := 63) (by decide +kernel) rfl rfl rfl ?_
        refine Wk.iload_n (k := 2) (q := 64) (by decide +kernel) rfl rfl rfl ?_
        refine Wk.cVi (q := 67) l_Sw_112 m_Harb_water (by decide +kernel) (fun _ h => h) O_1 rfl (Nat.le_of_ble_eq_true rfl) (Nat.le_of_ble_eq_true rfl) rfl (c_Harb_water hx hy hC.1) rfl ?_
        exact Wk.riP (by decide +kernel) rfl (⟨⟨_, rfl, Or.inr ⟨hin, by unfold CelQ; rw [if_neg (by decide), if_pos rfl] <;> exact ((eWat hc).symm)⟩⟩, fun _ _ _ _ => rfl⟩)
      · refine Wk.tabIn (dflt := 82) (lo := 0) (hi := 3) (offs := #[32, 42, 52, 65]) (len := 32) (off := 52) (t := 68) (by decide +kernel) (by decide) (by decide) (by decide) (by decide) (by decide) ?_
        refine Wk.aload_n (k := 0) (q := 69) (by decide +kernel) rfl rfl rfl ?_
        refine Wk.getR (r := 1) (q := 72) f_Sw_12 (by decide +kernel) O_0 (by decide) rfl rfl rfl ?_
        refine Wk.iload_n (k := 1) (q := 73) (by decide +kernel) rfl rfl rfl ?_
        refine Wk.iload_n (k := 2) (q := 74) (by decide +kernel) rfl rfl rfl ?_
        refine Wk.cSi (q := 77) l_Sw_115 m_Sw_spotAt (by decide +kernel) (fun _ h => h) (Nat.le_of_ble_eq_true rfl) (Nat.le_of_ble_eq_true rfl) rfl (c_Sw_spotAt) rfl ?_
        refine Wk.cSi (q := 80) l_Sw_118 m_Swing_sweepersOf (by decide +kernel) (fun _ h => h) (Nat.le_of_ble_eq_true rfl) (Nat.le_of_ble_eq_true rfl) rfl (c_Swing_sweepersOf hc9 hC) rfl ?_
        exact Wk.riP (by decide +kernel) rfl (⟨⟨_, rfl, Or.inr ⟨hin, by unfold CelQ; rw [if_neg (by decide), if_neg (by decide), if_pos rfl] <;> exact (by rw [hc.n4]; exact so_cong fun a a0 a1 => (eSW hc a0 (by omega)).symm)⟩⟩, fun _ _ _ _ => rfl⟩)
      · refine Wk.tabIn (dflt := 82) (lo := 0) (hi := 3) (offs := #[32, 42, 52, 65]) (len := 32) (off := 65) (t := 81) (by decide +kernel) (by decide) (by decide) (by decide) (by decide) (by decide) ?_
        refine Wk.aload_n (k := 0) (q := 82) (by decide +kernel) rfl rfl rfl ?_
        refine Wk.getR (r := 122) (q := 85) f_Sw_26 (by decide +kernel) O_0 (by decide) rfl rfl rfl ?_
        refine Wk.aload_n (k := 0) (q := 86) (by decide +kernel) rfl rfl rfl ?_
        refine Wk.getR (r := 1) (q := 89) f_Sw_12 (by decide +kernel) O_0 (by decide) rfl rfl rfl ?_
        refine Wk.iload_n (k := 1) (q := 90) (by decide +kernel) rfl rfl rfl ?_
        refine Wk.iload_n (k := 2) (q := 91) (by decide +kernel) rfl rfl rfl ?_
        refine Wk.cSi (q := 94) l_Sw_115 m_Sw_spotAt (by decide +kernel) (fun _ h => h) (Nat.le_of_ble_eq_true rfl) (Nat.le_of_ble_eq_true rfl) rfl (c_Sw_spotAt) rfl ?_
        refine Wk.cV (q := 97) l_Sw_121 m_Sear_waitersFor (by decide +kernel) (fun _ h => h) O_122 rfl (Nat.le_of_ble_eq_true rfl) (Nat.le_of_ble_eq_true rfl) rfl (c_Sear_waitersFor hc9 hC) rfl (fun v I1 L1 hP => ?_)
        obtain ⟨rfl, e1⟩ := hP
        have q1 : FrS I1 I := by rw [e1]; exact fun _ _ _ _ => rfl
        exact Wk.riP (by decide +kernel) rfl (⟨⟨_, rfl, Or.inr ⟨hin, by unfold CelQ; rw [if_neg (by decide), if_neg (by decide), if_neg (by decide), if_pos rfl] <;> exact (by rw [hc.n5, hc.w0]; exact so_cong fun k k0 k1 => by rw [show 75 + 4 * k = 55 + 4 * (5 + k) by omega, eFc hc (Or.inr (by omega)) hc9]; exact ePl)⟩⟩, q1⟩)
  · have hout : ¬ inE (I 149 0) (I 149 1) x y := by rw [hc.w0, hc.h1]; exact hc9
    refine Wk.ldc (z := (-1000000001)) (q := 14) k_Sw_107 (by decide +kernel) (by decide +kernel) rfl ?_
    exact Wk.riP (by decide +kernel) rfl (⟨⟨_, rfl, Or.inl ⟨hout, rfl⟩⟩, fun _ _ _ _ => rfl⟩)
theorem c_Mod_cell {x y q : Int} (hx : -2147483648 ≤ x ∧ x ≤ 2147483647) (hy : -2147483648 ≤ y ∧ y ≤ 2147483647) (hq : -2147483648 ≤ q ∧ q ≤ 2147483647) (hM : MW I) : Wk xs x_Mod_cell (d + 7) 0 0 0 [some (vr 148), some (vi x), some (vi y), some (vi q), none] [] X2 I L (p2 fun v I' L' => (∃ z, v = some (vi z) ∧ CelS I x y q z) ∧ Kp I' I ∧ L' = L) := by
  obtain ⟨hI, hS, hQ⟩ := id hM
  obtain ⟨hW, hH, hT, hF, hA, hK, hD⟩ := id hI
  have h49 := WH49 (W := I 149 0) (H := I 149 1) (by omega) (by omega)
  refine Wk.aload_n (k := 0) (q := 1) (by decide +kernel) rfl rfl rfl ?_
  refine Wk.iload_n (k := 1) (q := 2) (by decide +kernel) rfl rfl rfl ?_
  refine Wk.iload_n (k := 2) (q := 3) (by decide +kernel) rfl rfl rfl ?_
  refine Wk.cVi (q := 6) l_Mod_40 m_Mod_isCell (by decide +kernel) (fun _ h => h) O_148 rfl (Nat.le_of_ble_eq_true rfl) (Nat.le_of_ble_eq_true rfl) rfl (c_Mod_isCell hx hy hI) rfl ?_
  refine Wk.ifB_ne (off := (6)) (t := 12) (q := 9) (by decide +kernel) (by decide) rfl (fun hc6 => ?_) (fun hc6 => ?_)
  · have hcb := cellB (W := I 149 0) (H := I 149 1) (x := x) (y := y) ⟨hc6.1, hc6.2.1⟩ ⟨hc6.2.2.1, hc6.2.2.2⟩
    obtain ⟨hx0, hx1, hy0, hy1⟩ := id hc6
    refine Wk.iload_n (k := 2) (q := 13) (by decide +kernel) rfl rfl rfl ?_
    refine Wk.aload_n (k := 0) (q := 14) (by decide +kernel) rfl rfl rfl ?_
    refine Wk.getR (r := 149) (q := 17) f_Mod_7 (by decide +kernel) O_148 (by decide) rfl rfl rfl ?_
    refine Wk.iconst (n := 0) (q := 18) (by decide +kernel) rfl ?_
    refine Wk.iaload (q := 19) (by decide +kernel) A_149 (by first | omega | exact bi_rng _) (by first | omega | exact bi_rng _) rfl ?_
    refine Wk.imul (q := 20) (by decide +kernel) rfl ?_
    refine Wk.iload_n (k := 1) (q := 21) (by decide +kernel) rfl rfl rfl ?_
    refine Wk.iadd (q := 22) (by decide +kernel) rfl ?_
    refine Wk.istore (i := 4) (q := 24) (by decide +kernel) (by decide) rfl (fun _ h => h) rfl ?_
    refine Wk.iload_n (k := 3) (q := 25) (by decide +kernel) rfl rfl rfl ?_
    rcases Classical.em (q < 0 ∨ 3 < q) with hsw | hsw
    · refine Wk.tabOut (dflt := 63) (lo := 0) (hi := 3) (offs := #[31, 42, 49, 56]) (len := 31) (t := 88) (by decide +kernel) (hq) hsw (by decide) ?_
      refine Wk.ldc (z := (-1000000002)) (q := 90) k_Mod_159 (by decide +kernel) (by decide +kernel) rfl ?_
      exact Wk.riP (by decide +kernel) rfl (⟨⟨_, rfl, Or.inr ⟨hc6, by unfold CelQ; rw [if_neg (by omega), if_neg (by omega), if_neg (by omega), if_neg (by omega)]⟩⟩, Kp.refl _, rfl⟩)
    · have hsx : q = 0 ∨ q = 1 ∨ q = 2 ∨ q = 3 := by omega
      rcases hsx with rfl | rfl | rfl | rfl
      · refine Wk.tabIn (dflt := 63) (lo := 0) (hi := 3) (offs := #[31, 42, 49, 56]) (len := 31) (off := 31) (t := 56) (by decide +kernel) (by decide) (by decide) (by decide) (by decide) (by decide) ?_
        refine Wk.aload_n (k := 0) (q := 57) (by decide +kernel) rfl rfl rfl ?_
        refine Wk.getR (r := 149) (q := 60) f_Mod_7 (by decide +kernel) O_148 (by decide) rfl rfl rfl ?_
        refine Wk.bipush (n := 6) (q := 62) (by decide +kernel) (by decide +kernel) rfl ?_
        refine Wk.iload (i := 4) (q := 64) (by decide +kernel) rfl rfl ?_
        refine Wk.iadd (q := 65) (by decide +kernel) rfl ?_
        refine Wk.iaload (q := 66) (by decide +kernel) A_149 (by first | omega | exact bi_rng _) (by first | omega | exact bi_rng _) rfl ?_
        exact Wk.riP (by decide +kernel) rfl (⟨⟨_, rfl, Or.inr ⟨hc6, by unfold CelQ; rw [if_pos rfl] <;> exact (rfl)⟩⟩, Kp.refl _, rfl⟩)
      · refine Wk.tabIn (dflt := 63) (lo := 0) (hi := 3) (offs := #[31, 42, 49, 56]) (len := 31) (off := 42) (t := 67) (by decide +kernel) (by decide) (by decide) (by decide) (by decide) (by decide) ?_
        refine Wk.aload_n (k := 0) (q := 68) (by decide +kernel) rfl rfl rfl ?_
        refine Wk.iload_n (k := 1) (q := 69) (by decide +kernel) rfl rfl rfl ?_
        refine Wk.iload_n (k := 2) (q := 70) (by decide +kernel) rfl rfl rfl ?_
        refine Wk.cVi (q := 73) l_Mod_65 m_Mod_water (by decide +kernel) (fun _ h => h) O_148 rfl (Nat.le_of_ble_eq_true rfl) (Nat.le_of_ble_eq_true rfl) rfl (c_Mod_water hx hy hI) rfl ?_
        exact Wk.riP (by decide +kernel) rfl (⟨⟨_, rfl, Or.inr ⟨hc6, by unfold CelQ; rw [if_neg (by decide), if_pos rfl] <;> exact (rfl)⟩⟩, Kp.refl _, rfl⟩)
      · refine Wk.tabIn (dflt := 63) (lo := 0) (hi := 3) (offs := #[31, 42, 49, 56]) (len := 31) (off := 49) (t := 74) (by decide +kernel) (by decide) (by decide) (by decide) (by decide) (by decide) ?_
        refine Wk.aload_n (k := 0) (q := 75) (by decide +kernel) rfl rfl rfl ?_
        refine Wk.iload_n (k := 1) (q := 76) (by decide +kernel) rfl rfl rfl ?_
        refine Wk.iload_n (k := 2) (q := 77) (by decide +kernel) rfl rfl rfl ?_
        refine Wk.cVi (q := 80) l_Mod_128 m_Mod_sweepers (by decide +kernel) (fun _ h => h) O_148 rfl (Nat.le_of_ble_eq_true rfl) (Nat.le_of_ble_eq_true rfl) rfl (c_Mod_sweepers hM (by omega) (by omega)) rfl ?_
        exact Wk.riP (by decide +kernel) rfl (⟨⟨_, rfl, Or.inr ⟨hc6, by unfold CelQ; rw [if_neg (by decide), if_neg (by decide), if_pos rfl] <;> exact (rfl)⟩⟩, Kp.refl _, rfl⟩)
      · refine Wk.tabIn (dflt := 63) (lo := 0) (hi := 3) (offs := #[31, 42, 49, 56]) (len := 31) (off := 56) (t := 81) (by decide +kernel) (by decide) (by decide) (by decide) (by decide) (by decide) ?_
        refine Wk.aload_n (k := 0) (q := 82) (by decide +kernel) rfl rfl rfl ?_
        refine Wk.iload (i := 4) (q := 84) (by decide +kernel) rfl rfl ?_
        refine Wk.cVi (q := 87) l_Mod_161 m_Mod_fitters (by decide +kernel) (fun _ h => h) O_148 rfl (Nat.le_of_ble_eq_true rfl) (Nat.le_of_ble_eq_true rfl) rfl (c_Mod_fitters hM ⟨hcb.1, hcb.2.1⟩) rfl ?_
        exact Wk.riP (by decide +kernel) rfl (⟨⟨_, rfl, Or.inr ⟨hc6, by unfold CelQ; rw [if_neg (by decide), if_neg (by decide), if_neg (by decide), if_pos rfl] <;> exact (rfl)⟩⟩, Kp.refl _, rfl⟩)
  · refine Wk.ldc (z := (-1000000001)) (q := 11) k_Mod_160 (by decide +kernel) (by decide +kernel) rfl ?_
    exact Wk.riP (by decide +kernel) rfl (⟨⟨_, rfl, Or.inl ⟨hc6, rfl⟩⟩, Kp.refl _, rfl⟩)
theorem c_Sw_ship {a q : Int} (ha : -2147483648 ≤ a ∧ a ≤ 2147483647) (hq : -2147483648 ≤ q ∧ q ≤ 2147483647) (hI : Cur I) : Wk xs x_Sw_ship (d + 8) 0 0 0 [some (vr 0), some (vi a), some (vi q)] [] X2 I L (p2 fun v I' _ => (∃ z, v = some (vi z) ∧ ShpS I a q z) ∧ FrS I' I) := by
  have hc : Cur I := hI
  have hC : CW I := hc.1
  obtain ⟨hW, hH, hT, hF, hA, hB, hD⟩ := id hC.1
  refine Wk.aload_n (k := 0) (q := 1) (by decide +kernel) rfl rfl rfl ?_
  refine Wk.getR (r := 1) (q := 4) f_Sw_12 (by decide +kernel) O_0 (by decide) rfl rfl rfl ?_
  refine Wk.iload_n (k := 1) (q := 5) (by decide +kernel) rfl rfl rfl ?_
  refine Wk.cVi (q := 8) l_Sw_124 m_Harb_hasAnchored (by decide +kernel) (fun _ h => h) O_1 rfl (Nat.le_of_ble_eq_true rfl) (Nat.le_of_ble_eq_true rfl) rfl (c_Harb_hasAnchored ha hA) rfl ?_
  refine Wk.ifB_ne (off := (6)) (t := 14) (q := 11) (by decide +kernel) (by decide) rfl (fun hc8 => ?_) (fun hc8 => ?_)
  · have hin : 0 ≤ a ∧ a < I 149 4 := by rw [hc.n4]; exact hc8
    have hsl := hc.2.2.2.1 a (Or.inl hc8)
    refine Wk.iload_n (k := 2) (q := 15) (by decide +kernel) rfl rfl rfl ?_
    rcases Classical.em (q < 0 ∨ 7 < q) with hsw | hsw
    · refine Wk.tabOut (dflt := 182) (lo := 0) (hi := 7) (offs := #[45, 55, 65, 75, 101, 113, 129, 153]) (len := 45) (t := 197) (by decide +kernel) (hq) hsw (by decide) ?_
      refine Wk.ldc (z := (-1000000002)) (q := 199) k_Sw_102 (by decide +kernel) (by decide +kernel) rfl ?_
      exact Wk.riP (by decide +kernel) rfl (⟨⟨_, rfl, Or.inr ⟨hin, by unfold ShpQ; rw [if_neg (by omega), if_neg (by omega), if_neg (by omega), if_neg (by omega), if_neg (by omega), if_neg (by omega), if_neg (by omega), if_neg (by omega)]⟩⟩, fun _ _ _ _ => rfl⟩)
    · have hsx : q = 0 ∨ q = 1 ∨ q = 2 ∨ q = 3 ∨ q = 4 ∨ q = 5 ∨ q = 6 ∨ q = 7 := by omega
      rcases hsx with rfl | rfl | rfl | rfl | rfl | rfl | rfl | rfl
      · refine Wk.tabIn (dflt := 182) (lo := 0) (hi := 7) (offs := #[45, 55, 65, 75, 101, 113, 129, 153]) (len := 45) (off := 45) (t := 60) (by decide +kernel) (by decide) (by decide) (by decide) (by decide) (by decide) ?_
        refine Wk.aload_n (k := 0) (q := 61) (by decide +kernel) rfl rfl rfl ?_
        refine Wk.getR (r := 1) (q := 64) f_Sw_12 (by decide +kernel) O_0 (by decide) rfl rfl rfl ?_
        refine Wk.getR (r := 3) (q := 67) f_Sw_128 (by decide +kernel) O_1 (by decide) rfl rfl rfl ?_
        refine Wk.iload_n (k := 1) (q := 68) (by decide +kernel) rfl rfl rfl ?_
        refine Wk.iaload (q := 69) (by decide +kernel) A_3 (by first | omega | exact bi_rng _) (by first | omega | exact bi_rng _) rfl ?_
        exact Wk.riP (by decide +kernel) rfl (⟨⟨_, rfl, Or.inr ⟨hin, by unfold ShpQ; rw [if_pos rfl] <;> exact (hsl.1)⟩⟩, fun _ _ _ _ => rfl⟩)
      · refine Wk.tabIn (dflt := 182) (lo := 0) (hi := 7) (offs := #[45, 55, 65, 75, 101, 113, 129, 153]) (len := 45) (off := 55) (t := 70) (by decide +kernel) (by decide) (by decide) (by decide) (by decide) (by decide) ?_
        refine Wk.aload_n (k := 0) (q := 71) (by decide +kernel) rfl rfl rfl ?_
        refine Wk.getR (r := 1) (q := 74) f_Sw_12 (by decide +kernel) O_0 (by decide) rfl rfl rfl ?_
        refine Wk.getR (r := 4) (q := 77) f_Sw_132 (by decide +kernel) O_1 (by decide) rfl rfl rfl ?_
        refine Wk.iload_n (k := 1) (q := 78) (by decide +kernel) rfl rfl rfl ?_
        refine Wk.iaload (q := 79) (by decide +kernel) A_4 (by first | omega | exact bi_rng _) (by first | omega | exact bi_rng _) rfl ?_
        exact Wk.riP (by decide +kernel) rfl (⟨⟨_, rfl, Or.inr ⟨hin, by unfold ShpQ; rw [if_neg (by decide), if_pos rfl] <;> exact (hsl.2.1)⟩⟩, fun _ _ _ _ => rfl⟩)
      · refine Wk.tabIn (dflt := 182) (lo := 0) (hi := 7) (offs := #[45, 55, 65, 75, 101, 113, 129, 153]) (len := 45) (off := 65) (t := 80) (by decide +kernel) (by decide) (by decide) (by decide) (by decide) (by decide) ?_
        refine Wk.aload_n (k := 0) (q := 81) (by decide +kernel) rfl rfl rfl ?_
        refine Wk.getR (r := 1) (q := 84) f_Sw_12 (by decide +kernel) O_0 (by decide) rfl rfl rfl ?_
        refine Wk.getR (r := 5) (q := 87) f_Sw_135 (by decide +kernel) O_1 (by decide) rfl rfl rfl ?_
        refine Wk.iload_n (k := 1) (q := 88) (by decide +kernel) rfl rfl rfl ?_
        refine Wk.iaload (q := 89) (by decide +kernel) A_5 (by first | omega | exact bi_rng _) (by first | omega | exact bi_rng _) rfl ?_
        exact Wk.riP (by decide +kernel) rfl (⟨⟨_, rfl, Or.inr ⟨hin, by unfold ShpQ; rw [if_neg (by decide), if_neg (by decide), if_pos rfl] <;> exact (hsl.2.2)⟩⟩, fun _ _ _ _ => rfl⟩)
      · refine Wk.tabIn (dflt := 182) (lo := 0) (hi := 7) (offs := #[45, 55, 65, 75, 101, 113, 129, 153]) (len := 45) (off := 75) (t := 90) (by decide +kernel) (by decide) (by decide) (by decide) (by decide) (by decide) ?_
        refine Wk.aload_n (k := 0) (q := 91) (by decide +kernel) rfl rfl rfl ?_
        refine Wk.getR (r := 1) (q := 94) f_Sw_12 (by decide +kernel) O_0 (by decide) rfl rfl rfl ?_
        refine Wk.aload_n (k := 0) (q := 95) (by decide +kernel) rfl rfl rfl ?_
        refine Wk.getR (r := 1) (q := 98) f_Sw_12 (by decide +kernel) O_0 (by decide) rfl rfl rfl ?_
        refine Wk.getR (r := 6) (q := 101) f_Sw_138 (by decide +kernel) O_1 (by decide) rfl rfl rfl ?_
        refine Wk.iload_n (k := 1) (q := 102) (by decide +kernel) rfl rfl rfl ?_
        refine Wk.iaload (q := 103) (by decide +kernel) A_6 (by first | omega | exact bi_rng _) (by first | omega | exact bi_rng _) rfl ?_
        refine Wk.aload_n (k := 0) (q := 104) (by decide +kernel) rfl rfl rfl ?_
        refine Wk.getR (r := 1) (q := 107) f_Sw_12 (by decide +kernel) O_0 (by decide) rfl rfl rfl ?_
        refine Wk.getR (r := 7) (q := 110) f_Sw_141 (by decide +kernel) O_1 (by decide) rfl rfl rfl ?_
        refine Wk.iload_n (k := 1) (q := 111) (by decide +kernel) rfl rfl rfl ?_
        refine Wk.iaload (q := 112) (by decide +kernel) A_7 (by first | omega | exact bi_rng _) (by first | omega | exact bi_rng _) rfl ?_
        refine Wk.cVi (q := 115) l_Sw_144 m_Harb_cellAt (by decide +kernel) (fun _ h => h) O_1 rfl (Nat.le_of_ble_eq_true rfl) (Nat.le_of_ble_eq_true rfl) rfl (c_Harb_cellAt) rfl ?_
        exact Wk.riP (by decide +kernel) rfl (⟨⟨_, rfl, Or.inr ⟨hin, by unfold ShpQ; rw [if_neg (by decide), if_neg (by decide), if_neg (by decide), if_pos rfl] <;> exact (hc.2.2.2.2 a hc8.1 hc8.2)⟩⟩, fun _ _ _ _ => rfl⟩)
      · refine Wk.tabIn (dflt := 182) (lo := 0) (hi := 7) (offs := #[45, 55, 65, 75, 101, 113, 129, 153]) (len := 45) (off := 101) (t := 116) (by decide +kernel) (by decide) (by decide) (by decide) (by decide) (by decide) ?_
        refine Wk.aload_n (k := 0) (q := 117) (by decide +kernel) rfl rfl rfl ?_
        refine Wk.getR (r := 1) (q := 120) f_Sw_12 (by decide +kernel) O_0 (by decide) rfl rfl rfl ?_
        refine Wk.iload_n (k := 1) (q := 121) (by decide +kernel) rfl rfl rfl ?_
        refine Wk.cS (q := 124) l_Sw_147 m_Swing_sweptBy (by decide +kernel) (fun _ h => h) (Nat.le_of_ble_eq_true rfl) (Nat.le_of_ble_eq_true rfl) rfl (c_Swing_sweptBy hc8.1 hc8.2 hC) rfl (fun v I1 L1 hP => ?_)
        obtain ⟨⟨u, rfl, hu⟩, rfl, rfl⟩ := hP
        refine Wk.cSi (q := 127) l_Sw_87 m_Long_bitCount (by decide +kernel) (fun _ h => h) (Nat.le_of_ble_eq_true rfl) (Nat.le_of_ble_eq_true rfl) rfl (c_Long_bitCount) rfl ?_
        exact Wk.riP (by decide +kernel) rfl (⟨⟨_, rfl, Or.inr ⟨hin, by unfold ShpQ; rw [if_neg (by decide), if_neg (by decide), if_neg (by decide), if_neg (by decide), if_pos rfl] <;> exact (eSwB hc hc8.1 hc8.2 hu)⟩⟩, fun _ _ _ _ => rfl⟩)
      · refine Wk.tabIn (dflt := 182) (lo := 0) (hi := 7) (offs := #[45, 55, 65, 75, 101, 113, 129, 153]) (len := 45) (off := 113) (t := 128) (by decide +kernel) (by decide) (by decide) (by decide) (by decide) (by decide) ?_
        refine Wk.aload_n (k := 0) (q := 129) (by decide +kernel) rfl rfl rfl ?_
        refine Wk.getR (r := 1) (q := 132) f_Sw_12 (by decide +kernel) O_0 (by decide) rfl rfl rfl ?_
        refine Wk.iload_n (k := 1) (q := 133) (by decide +kernel) rfl rfl rfl ?_
        refine Wk.aload_n (k := 0) (q := 134) (by decide +kernel) rfl rfl rfl ?_
        refine Wk.getR (r := 1) (q := 137) f_Sw_12 (by decide +kernel) O_0 (by decide) rfl rfl rfl ?_
        refine Wk.getI (z := 3) (q := 140) f_Sw_57 (by decide +kernel) O_1 (by decide) rfl rfl rfl ?_
        refine Wk.cSi (q := 143) l_Sw_151 m_Swing_clashesOf (by decide +kernel) (fun _ h => h) (Nat.le_of_ble_eq_true rfl) (Nat.le_of_ble_eq_true rfl) rfl (c_Swing_clashesOf hc8.1 hc8.2 (by omega) hC) rfl ?_
        exact Wk.riP (by decide +kernel) rfl (⟨⟨_, rfl, Or.inr ⟨hin, by unfold ShpQ; rw [if_neg (by decide), if_neg (by decide), if_neg (by decide), if_neg (by decide), if_neg (by decide), if_pos rfl] <;> exact (eCs hc hc8.1 hc8.2)⟩⟩, fun _ _ _ _ => rfl⟩)
      · refine Wk.tabIn (dflt := 182) (lo := 0) (hi := 7) (offs := #[45, 55, 65, 75, 101, 113, 129, 153]) (len := 45) (off := 129) (t := 144) (by decide +kernel) (by decide) (by decide) (by decide) (by decide) (by decide) ?_
        refine Wk.aload_n (k := 0) (q := 145) (by decide +kernel) rfl rfl rfl ?_
        refine Wk.getR (r := 1) (q := 148) f_Sw_12 (by decide +kernel) O_0 (by decide) rfl rfl rfl ?_
        refine Wk.iload_n (k := 1) (q := 149) (by decide +kernel) rfl rfl rfl ?_
        refine Wk.aload_n (k := 0) (q := 150) (by decide +kernel) rfl rfl rfl ?_
        refine Wk.getR (r := 1) (q := 153) f_Sw_12 (by decide +kernel) O_0 (by decide) rfl rfl rfl ?_
        refine Wk.getI (z := 3) (q := 156) f_Sw_57 (by decide +kernel) O_1 (by decide) rfl rfl rfl ?_
        refine Wk.cSi (q := 159) l_Sw_155 m_Swing_liesWell (by decide +kernel) (fun _ h => h) (Nat.le_of_ble_eq_true rfl) (Nat.le_of_ble_eq_true rfl) rfl (c_Swing_liesWell hc8.1 hc8.2 (by omega) hC) rfl ?_
        refine Wk.ifB_eq (off := (7)) (t := 166) (q := 162) (by decide +kernel) (by decide) rfl (fun hc159 => ?_) (fun hc159 => ?_)
        · refine Wk.iconst (n := 0) (q := 167) (by decide +kernel) rfl ?_
          exact Wk.riP (by decide +kernel) rfl (⟨⟨_, rfl, Or.inr ⟨hin, by unfold ShpQ; rw [if_neg (by decide), if_neg (by decide), if_neg (by decide), if_neg (by decide), if_neg (by decide), if_neg (by decide), if_pos rfl] <;> exact (by first | (rw [bi_t]; exact (by rw [hc.f3]; exact (eMLa hc hc8.1 hc8.2).mpr hc159)) | (rw [bi_f]; exact (by rw [hc.f3]; exact fun w => hc159 ((eMLa hc hc8.1 hc8.2).mp w))))⟩⟩, fun _ _ _ _ => rfl⟩)
        · refine Wk.iconst (n := 1) (q := 163) (by decide +kernel) rfl ?_
          refine Wk.goto (off := (4)) (q := 167) (by decide +kernel) (by decide) ?_
          exact Wk.riP (by decide +kernel) rfl (⟨⟨_, rfl, Or.inr ⟨hin, by unfold ShpQ; rw [if_neg (by decide), if_neg (by decide), if_neg (by decide), if_neg (by decide), if_neg (by decide), if_neg (by decide), if_pos rfl] <;> exact (by first | (rw [bi_t]; exact (by rw [hc.f3]; exact (eMLa hc hc8.1 hc8.2).mpr hc159)) | (rw [bi_f]; exact (by rw [hc.f3]; exact fun w => hc159 ((eMLa hc hc8.1 hc8.2).mp w))))⟩⟩, fun _ _ _ _ => rfl⟩)
      · refine Wk.tabIn (dflt := 182) (lo := 0) (hi := 7) (offs := #[45, 55, 65, 75, 101, 113, 129, 153]) (len := 45) (off := 153) (t := 168) (by decide +kernel) (by decide) (by decide) (by decide) (by decide) (by decide) ?_
        refine Wk.aload_n (k := 0) (q := 169) (by decide +kernel) rfl rfl rfl ?_
        refine Wk.getR (r := 1) (q := 172) f_Sw_12 (by decide +kernel) O_0 (by decide) rfl rfl rfl ?_
        refine Wk.iload_n (k := 1) (q := 173) (by decide +kernel) rfl rfl rfl ?_
        refine Wk.aload_n (k := 0) (q := 174) (by decide +kernel) rfl rfl rfl ?_
        refine Wk.getR (r := 1) (q := 177) f_Sw_12 (by decide +kernel) O_0 (by decide) rfl rfl rfl ?_
        refine Wk.getI (z := 3) (q := 180) f_Sw_57 (by decide +kernel) O_1 (by decide) rfl rfl rfl ?_
        refine Wk.cS (q := 183) l_Sw_159 m_Swing_leastWater (by decide +kernel) (fun _ h => h) (Nat.le_of_ble_eq_true rfl) (Nat.le_of_ble_eq_true rfl) rfl (c_Swing_leastWater hc8.1 hc8.2 (by omega) hC) rfl (fun v I1 L1 hP => ?_)
        obtain ⟨⟨z, rfl, hz, hz0, hz1⟩, rfl, rfl⟩ := hP
        refine Wk.aload_n (k := 0) (q := 184) (by decide +kernel) rfl rfl rfl ?_
        refine Wk.getR (r := 1) (q := 187) f_Sw_12 (by decide +kernel) O_0 (by decide) rfl rfl rfl ?_
        refine Wk.getR (r := 3) (q := 190) f_Sw_128 (by decide +kernel) O_1 (by decide) rfl rfl rfl ?_
        refine Wk.iload_n (k := 1) (q := 191) (by decide +kernel) rfl rfl rfl ?_
        refine Wk.iaload (q := 192) (by decide +kernel) A_3 (by first | omega | exact bi_rng _) (by first | omega | exact bi_rng _) rfl ?_
        refine Wk.isub (q := 193) (by decide +kernel) rfl ?_
        refine Wk.bipush (n := 100) (q := 195) (by decide +kernel) (by decide +kernel) rfl ?_
        refine Wk.iadd (q := 196) (by decide +kernel) rfl ?_
        exact Wk.riP (by decide +kernel) rfl (⟨⟨_, rfl, Or.inr ⟨hin, by unfold ShpQ; rw [if_neg (by decide), if_neg (by decide), if_neg (by decide), if_neg (by decide), if_neg (by decide), if_neg (by decide), if_neg (by decide), if_pos rfl] <;> exact (⟨_, eMin hc hc8.1 hc8.2 hz, by rw [hsl.1]⟩)⟩⟩, fun _ _ _ _ => rfl⟩)
  · have hout : ¬ (0 ≤ a ∧ a < I 149 4) := by rw [hc.n4]; exact hc8
    refine Wk.ldc (z := (-1000000001)) (q := 13) k_Sw_107 (by decide +kernel) (by decide +kernel) rfl ?_
    exact Wk.riP (by decide +kernel) rfl (⟨⟨_, rfl, Or.inl ⟨hout, rfl⟩⟩, fun _ _ _ _ => rfl⟩)
theorem c_Mod_ship {a q : Int} (ha : -2147483648 ≤ a ∧ a ≤ 2147483647) (hq : -2147483648 ≤ q ∧ q ≤ 2147483647) (hM : MW I) : Wk xs x_Mod_ship (d + 7) 0 0 0 [some (vr 148), some (vi a), some (vi q), none] [] X2 I L (p2 fun v I' L' => (∃ z, v = some (vi z) ∧ ShpS I a q z) ∧ Kp I' I ∧ L' = L) := by
  obtain ⟨hI, hS, hQ⟩ := id hM
  obtain ⟨hW, hH, hT, hF, hA, hK, hD⟩ := id hI
  have h49 := WH49 (W := I 149 0) (H := I 149 1) (by omega) (by omega)
  refine Wk.aload_n (k := 0) (q := 1) (by decide +kernel) rfl rfl rfl ?_
  refine Wk.iload_n (k := 1) (q := 2) (by decide +kernel) rfl rfl rfl ?_
  refine Wk.cVi (q := 5) l_Mod_134 m_Mod_isShip (by decide +kernel) (fun _ h => h) O_148 rfl (Nat.le_of_ble_eq_true rfl) (Nat.le_of_ble_eq_true rfl) rfl (c_Mod_isShip ha hI) rfl ?_
  refine Wk.ifB_ne (off := (6)) (t := 11) (q := 8) (by decide +kernel) (by decide) rfl (fun hc5 => ?_) (fun hc5 => ?_)
  · obtain ⟨hp, hcl⟩ := hS a hc5.1 hc5.2
    have hp0 := hp.1
    refine Wk.iload_n (k := 1) (q := 12) (by decide +kernel) rfl rfl rfl ?_
    refine Wk.cSi (q := 15) l_Mod_77 m_Mod_shipAt (by decide +kernel) (fun _ h => h) (Nat.le_of_ble_eq_true rfl) (Nat.le_of_ble_eq_true rfl) rfl (c_Mod_shipAt) rfl ?_
    refine Wk.istore_n (k := 3) (q := 16) (by decide +kernel) rfl (by decide) rfl (fun _ h => h) rfl ?_
    refine Wk.iload_n (k := 2) (q := 17) (by decide +kernel) rfl rfl rfl ?_
    rcases Classical.em (q < 0 ∨ 7 < q) with hsw | hsw
    · refine Wk.tabOut (dflt := 107) (lo := 0) (hi := 7) (offs := #[47, 47, 47, 47, 56, 62, 68, 82]) (len := 47) (t := 124) (by decide +kernel) (hq) hsw (by decide) ?_
      refine Wk.ldc (z := (-1000000002)) (q := 126) k_Mod_159 (by decide +kernel) (by decide +kernel) rfl ?_
      exact Wk.riP (by decide +kernel) rfl (⟨⟨_, rfl, Or.inr ⟨hc5, by unfold ShpQ; rw [if_neg (by omega), if_neg (by omega), if_neg (by omega), if_neg (by omega), if_neg (by omega), if_neg (by omega), if_neg (by omega), if_neg (by omega)]⟩⟩, Kp.refl _, rfl⟩)
    · have hsx : q = 0 ∨ q = 1 ∨ q = 2 ∨ q = 3 ∨ q = 4 ∨ q = 5 ∨ q = 6 ∨ q = 7 := by omega
      rcases hsx with rfl | rfl | rfl | rfl | rfl | rfl | rfl | rfl
      · refine Wk.tabIn (dflt := 107) (lo := 0) (hi := 7) (offs := #[47, 47, 47, 47, 56, 62, 68, 82]) (len := 47) (off := 47) (t := 64) (by decide +kernel) (by decide) (by decide) (by decide) (by decide) (by decide) ?_
        refine Wk.aload_n (k := 0) (q := 65) (by decide +kernel) rfl rfl rfl ?_
        refine Wk.getR (r := 149) (q := 68) f_Mod_7 (by decide +kernel) O_148 (by decide) rfl rfl rfl ?_
        refine Wk.iload_n (k := 3) (q := 69) (by decide +kernel) rfl rfl rfl ?_
        refine Wk.iload_n (k := 2) (q := 70) (by decide +kernel) rfl rfl rfl ?_
        refine Wk.iadd (q := 71) (by decide +kernel) rfl ?_
        refine Wk.iaload (q := 72) (by decide +kernel) A_149 (by first | omega | exact bi_rng _) (by first | omega | exact bi_rng _) rfl ?_
        exact Wk.riP (by decide +kernel) rfl (⟨⟨_, rfl, Or.inr ⟨hc5, by first | (unfold ShpQ; rw [if_pos rfl] <;> exact (by congr 1; omega)) | (unfold ShpQ; rw [if_neg (by decide), if_pos rfl] <;> exact (by congr 1; omega)) | (unfold ShpQ; rw [if_neg (by decide), if_neg (by decide), if_pos rfl] <;> exact (by congr 1; omega)) | (unfold ShpQ; rw [if_neg (by decide), if_neg (by decide), if_neg (by decide), if_pos rfl] <;> exact (by congr 1; omega))⟩⟩, Kp.refl _, rfl⟩)
      · refine Wk.tabIn (dflt := 107) (lo := 0) (hi := 7) (offs := #[47, 47, 47, 47, 56, 62, 68, 82]) (len := 47) (off := 47) (t := 64) (by decide +kernel) (by decide) (by decide) (by decide) (by decide) (by decide) ?_
        refine Wk.aload_n (k := 0) (q := 65) (by decide +kernel) rfl rfl rfl ?_
        refine Wk.getR (r := 149) (q := 68) f_Mod_7 (by decide +kernel) O_148 (by decide) rfl rfl rfl ?_
        refine Wk.iload_n (k := 3) (q := 69) (by decide +kernel) rfl rfl rfl ?_
        refine Wk.iload_n (k := 2) (q := 70) (by decide +kernel) rfl rfl rfl ?_
        refine Wk.iadd (q := 71) (by decide +kernel) rfl ?_
        refine Wk.iaload (q := 72) (by decide +kernel) A_149 (by first | omega | exact bi_rng _) (by first | omega | exact bi_rng _) rfl ?_
        exact Wk.riP (by decide +kernel) rfl (⟨⟨_, rfl, Or.inr ⟨hc5, by first | (unfold ShpQ; rw [if_pos rfl] <;> exact (by congr 1; omega)) | (unfold ShpQ; rw [if_neg (by decide), if_pos rfl] <;> exact (by congr 1; omega)) | (unfold ShpQ; rw [if_neg (by decide), if_neg (by decide), if_pos rfl] <;> exact (by congr 1; omega)) | (unfold ShpQ; rw [if_neg (by decide), if_neg (by decide), if_neg (by decide), if_pos rfl] <;> exact (by congr 1; omega))⟩⟩, Kp.refl _, rfl⟩)
      · refine Wk.tabIn (dflt := 107) (lo := 0) (hi := 7) (offs := #[47, 47, 47, 47, 56, 62, 68, 82]) (len := 47) (off := 47) (t := 64) (by decide +kernel) (by decide) (by decide) (by decide) (by decide) (by decide) ?_
        refine Wk.aload_n (k := 0) (q := 65) (by decide +kernel) rfl rfl rfl ?_
        refine Wk.getR (r := 149) (q := 68) f_Mod_7 (by decide +kernel) O_148 (by decide) rfl rfl rfl ?_
        refine Wk.iload_n (k := 3) (q := 69) (by decide +kernel) rfl rfl rfl ?_
        refine Wk.iload_n (k := 2) (q := 70) (by decide +kernel) rfl rfl rfl ?_
        refine Wk.iadd (q := 71) (by decide +kernel) rfl ?_
        refine Wk.iaload (q := 72) (by decide +kernel) A_149 (by first | omega | exact bi_rng _) (by first | omega | exact bi_rng _) rfl ?_
        exact Wk.riP (by decide +kernel) rfl (⟨⟨_, rfl, Or.inr ⟨hc5, by first | (unfold ShpQ; rw [if_pos rfl] <;> exact (by congr 1; omega)) | (unfold ShpQ; rw [if_neg (by decide), if_pos rfl] <;> exact (by congr 1; omega)) | (unfold ShpQ; rw [if_neg (by decide), if_neg (by decide), if_pos rfl] <;> exact (by congr 1; omega)) | (unfold ShpQ; rw [if_neg (by decide), if_neg (by decide), if_neg (by decide), if_pos rfl] <;> exact (by congr 1; omega))⟩⟩, Kp.refl _, rfl⟩)
      · refine Wk.tabIn (dflt := 107) (lo := 0) (hi := 7) (offs := #[47, 47, 47, 47, 56, 62, 68, 82]) (len := 47) (off := 47) (t := 64) (by decide +kernel) (by decide) (by decide) (by decide) (by decide) (by decide) ?_
        refine Wk.aload_n (k := 0) (q := 65) (by decide +kernel) rfl rfl rfl ?_
        refine Wk.getR (r := 149) (q := 68) f_Mod_7 (by decide +kernel) O_148 (by decide) rfl rfl rfl ?_
        refine Wk.iload_n (k := 3) (q := 69) (by decide +kernel) rfl rfl rfl ?_
        refine Wk.iload_n (k := 2) (q := 70) (by decide +kernel) rfl rfl rfl ?_
        refine Wk.iadd (q := 71) (by decide +kernel) rfl ?_
        refine Wk.iaload (q := 72) (by decide +kernel) A_149 (by first | omega | exact bi_rng _) (by first | omega | exact bi_rng _) rfl ?_
        exact Wk.riP (by decide +kernel) rfl (⟨⟨_, rfl, Or.inr ⟨hc5, by first | (unfold ShpQ; rw [if_pos rfl] <;> exact (by congr 1; omega)) | (unfold ShpQ; rw [if_neg (by decide), if_pos rfl] <;> exact (by congr 1; omega)) | (unfold ShpQ; rw [if_neg (by decide), if_neg (by decide), if_pos rfl] <;> exact (by congr 1; omega)) | (unfold ShpQ; rw [if_neg (by decide), if_neg (by decide), if_neg (by decide), if_pos rfl] <;> exact (by congr 1; omega))⟩⟩, Kp.refl _, rfl⟩)
      · refine Wk.tabIn (dflt := 107) (lo := 0) (hi := 7) (offs := #[47, 47, 47, 47, 56, 62, 68, 82]) (len := 47) (off := 56) (t := 73) (by decide +kernel) (by decide) (by decide) (by decide) (by decide) (by decide) ?_
        refine Wk.aload_n (k := 0) (q := 74) (by decide +kernel) rfl rfl rfl ?_
        refine Wk.iload_n (k := 1) (q := 75) (by decide +kernel) rfl rfl rfl ?_
        refine Wk.cVi (q := 78) l_Mod_164 m_Mod_sweptBy (by decide +kernel) (fun _ h => h) O_148 rfl (Nat.le_of_ble_eq_true rfl) (Nat.le_of_ble_eq_true rfl) rfl (c_Mod_sweptBy hc5.1 hc5.2 hM) rfl ?_
        exact Wk.riP (by decide +kernel) rfl (⟨⟨_, rfl, Or.inr ⟨hc5, by unfold ShpQ; rw [if_neg (by decide), if_neg (by decide), if_neg (by decide), if_neg (by decide), if_pos rfl] <;> exact (rfl)⟩⟩, Kp.refl _, rfl⟩)
      · refine Wk.tabIn (dflt := 107) (lo := 0) (hi := 7) (offs := #[47, 47, 47, 47, 56, 62, 68, 82]) (len := 47) (off := 62) (t := 79) (by decide +kernel) (by decide) (by decide) (by decide) (by decide) (by decide) ?_
        refine Wk.aload_n (k := 0) (q := 80) (by decide +kernel) rfl rfl rfl ?_
        refine Wk.iload_n (k := 1) (q := 81) (by decide +kernel) rfl rfl rfl ?_
        refine Wk.cVi (q := 84) l_Mod_90 m_Mod_clashes (by decide +kernel) (fun _ h => h) O_148 rfl (Nat.le_of_ble_eq_true rfl) (Nat.le_of_ble_eq_true rfl) rfl (c_Mod_clashes hc5.1 hc5.2 hM) rfl ?_
        exact Wk.riP (by decide +kernel) rfl (⟨⟨_, rfl, Or.inr ⟨hc5, by unfold ShpQ; rw [if_neg (by decide), if_neg (by decide), if_neg (by decide), if_neg (by decide), if_neg (by decide), if_pos rfl] <;> exact (rfl)⟩⟩, Kp.refl _, rfl⟩)
      · refine Wk.tabIn (dflt := 107) (lo := 0) (hi := 7) (offs := #[47, 47, 47, 47, 56, 62, 68, 82]) (len := 47) (off := 68) (t := 85) (by decide +kernel) (by decide) (by decide) (by decide) (by decide) (by decide) ?_
        refine Wk.aload_n (k := 0) (q := 86) (by decide +kernel) rfl rfl rfl ?_
        refine Wk.iload_n (k := 1) (q := 87) (by decide +kernel) rfl rfl rfl ?_
        refine Wk.cVi (q := 90) l_Mod_86 m_Mod_liesWell (by decide +kernel) (fun _ h => h) O_148 rfl (Nat.le_of_ble_eq_true rfl) (Nat.le_of_ble_eq_true rfl) rfl (c_Mod_liesWell hc5.1 hc5.2 hM) rfl ?_
        refine Wk.ifB_eq (off := (7)) (t := 97) (q := 93) (by decide +kernel) (by decide) rfl (fun hc90 => ?_) (fun hc90 => ?_)
        · refine Wk.iconst (n := 0) (q := 98) (by decide +kernel) rfl ?_
          exact Wk.riP (by decide +kernel) rfl (⟨⟨_, rfl, Or.inr ⟨hc5, by unfold ShpQ; rw [if_neg (by decide), if_neg (by decide), if_neg (by decide), if_neg (by decide), if_neg (by decide), if_neg (by decide), if_pos rfl] <;> exact (by first | (rw [bi_t hc90]; done) | (rw [bi_f hc90]; done))⟩⟩, Kp.refl _, rfl⟩)
        · refine Wk.iconst (n := 1) (q := 94) (by decide +kernel) rfl ?_
          refine Wk.goto (off := (4)) (q := 98) (by decide +kernel) (by decide) ?_
          exact Wk.riP (by decide +kernel) rfl (⟨⟨_, rfl, Or.inr ⟨hc5, by unfold ShpQ; rw [if_neg (by decide), if_neg (by decide), if_neg (by decide), if_neg (by decide), if_neg (by decide), if_neg (by decide), if_pos rfl] <;> exact (by first | (rw [bi_t hc90]; done) | (rw [bi_f hc90]; done))⟩⟩, Kp.refl _, rfl⟩)
      · refine Wk.tabIn (dflt := 107) (lo := 0) (hi := 7) (offs := #[47, 47, 47, 47, 56, 62, 68, 82]) (len := 47) (off := 82) (t := 99) (by decide +kernel) (by decide) (by decide) (by decide) (by decide) (by decide) ?_
        refine Wk.aload_n (k := 0) (q := 100) (by decide +kernel) rfl rfl rfl ?_
        refine Wk.iload_n (k := 3) (q := 101) (by decide +kernel) rfl rfl rfl ?_
        refine Wk.aload_n (k := 0) (q := 102) (by decide +kernel) rfl rfl rfl ?_
        refine Wk.getR (r := 149) (q := 105) f_Mod_7 (by decide +kernel) O_148 (by decide) rfl rfl rfl ?_
        refine Wk.iload_n (k := 3) (q := 106) (by decide +kernel) rfl rfl rfl ?_
        refine Wk.iconst (n := 3) (q := 107) (by decide +kernel) rfl ?_
        refine Wk.iadd (q := 108) (by decide +kernel) rfl ?_
        refine Wk.iaload (q := 109) (by decide +kernel) A_149 (by first | omega | exact bi_rng _) (by first | omega | exact bi_rng _) rfl ?_
        refine Wk.iconst (n := 1) (q := 110) (by decide +kernel) rfl ?_
        refine Wk.cV (q := 113) l_Mod_69 m_Mod_leastWater (by decide +kernel) (fun _ h => h) O_148 rfl (Nat.le_of_ble_eq_true rfl) (Nat.le_of_ble_eq_true rfl) rfl (c_Mod_leastWater hI hp hcl (Or.inr rfl)) rfl (fun v I1 L1 hP => ?_)
        obtain ⟨⟨z, rfl, hz, hz0, hz1⟩, rfl, rfl⟩ := hP
        refine Wk.aload_n (k := 0) (q := 114) (by decide +kernel) rfl rfl rfl ?_
        refine Wk.getR (r := 149) (q := 117) f_Mod_7 (by decide +kernel) O_148 (by decide) rfl rfl rfl ?_
        refine Wk.iload_n (k := 3) (q := 118) (by decide +kernel) rfl rfl rfl ?_
        refine Wk.iaload (q := 119) (by decide +kernel) A_149 (by first | omega | exact bi_rng _) (by first | omega | exact bi_rng _) rfl ?_
        refine Wk.isub (q := 120) (by decide +kernel) rfl ?_
        refine Wk.bipush (n := 100) (q := 122) (by decide +kernel) (by decide +kernel) rfl ?_
        refine Wk.iadd (q := 123) (by decide +kernel) rfl ?_
        exact Wk.riP (by decide +kernel) rfl (⟨⟨_, rfl, Or.inr ⟨hc5, by unfold ShpQ; rw [if_neg (by decide), if_neg (by decide), if_neg (by decide), if_neg (by decide), if_neg (by decide), if_neg (by decide), if_neg (by decide), if_pos rfl] <;> exact (⟨_, hz, rfl⟩)⟩⟩, Kp.refl _, rfl⟩)
  · refine Wk.ldc (z := (-1000000001)) (q := 10) k_Mod_160 (by decide +kernel) (by decide +kernel) rfl ?_
    exact Wk.riP (by decide +kernel) rfl (⟨⟨_, rfl, Or.inl ⟨hc5, rfl⟩⟩, Kp.refl _, rfl⟩)
theorem c_Sw_lies {a w x y : Int} (ha : -2147483648 ≤ a ∧ a ≤ 2147483647) (hw : -2147483648 ≤ w ∧ w ≤ 2147483647) (hx : -2147483648 ≤ x ∧ x ≤ 2147483647) (hy : -2147483648 ≤ y ∧ y ≤ 2147483647) (hI : Cur I) : Wk xs x_Sw_lies (d + 8) 0 0 0 [some (vr 0), some (vi a), some (vi w), some (vi x), some (vi y)] [] X2 I L (p2 fun v I' _ => (∃ z, v = some (vi z) ∧ LieS I a w x y z) ∧ FrS I' I) := by
  have hc : Cur I := hI
  have hC : CW I := hc.1
  obtain ⟨hW, hH, hT, hF, hA, hB, hD⟩ := id hC.1
  refine Wk.aload_n (k := 0) (q := 1) (by decide +kernel) rfl rfl rfl ?_
  refine Wk.getR (r := 1) (q := 4) f_Sw_12 (by decide +kernel) O_0 (by decide) rfl rfl rfl ?_
  refine Wk.iload_n (k := 1) (q := 5) (by decide +kernel) rfl rfl rfl ?_
  refine Wk.cVi (q := 8) l_Sw_124 m_Harb_hasAnchored (by decide +kernel) (fun _ h => h) O_1 rfl (Nat.le_of_ble_eq_true rfl) (Nat.le_of_ble_eq_true rfl) rfl (c_Harb_hasAnchored ha hA) rfl ?_
  refine Wk.ifB_eq (off := (16)) (t := 24) (q := 11) (by decide +kernel) (by decide) rfl (fun hc8 => ?_) (fun hc8 => ?_)
  · refine Wk.ldc (z := (-1000000001)) (q := 26) k_Sw_107 (by decide +kernel) (by decide +kernel) rfl ?_
    exact Wk.riP (by decide +kernel) rfl (⟨⟨_, rfl, Or.inl ⟨(by rw [hc.n4, hc.w0, hc.h1]; exact fun w => by first | exact hc8 w.1 | exact hc21 w.2), rfl⟩⟩, fun _ _ _ _ => rfl⟩)
  · refine Wk.aload_n (k := 0) (q := 12) (by decide +kernel) rfl rfl rfl ?_
    refine Wk.getR (r := 1) (q := 15) f_Sw_12 (by decide +kernel) O_0 (by decide) rfl rfl rfl ?_
    refine Wk.iload_n (k := 3) (q := 16) (by decide +kernel) rfl rfl rfl ?_
    refine Wk.iload (i := 4) (q := 18) (by decide +kernel) rfl rfl ?_
    refine Wk.cVi (q := 21) l_Sw_103 m_Harb_hasCell (by decide +kernel) (fun _ h => h) O_1 rfl (Nat.le_of_ble_eq_true rfl) (Nat.le_of_ble_eq_true rfl) rfl (c_Harb_hasCell hx hy (by omega) (by omega)) rfl ?_
    refine Wk.ifB_ne (off := (6)) (t := 27) (q := 24) (by decide +kernel) (by decide) rfl (fun hc21 => ?_) (fun hc21 => ?_)
    · obtain ⟨hx0, hx1, hy0, hy1⟩ := id hc21
      refine Wk.iload_n (k := 2) (q := 28) (by decide +kernel) rfl rfl rfl ?_
      refine Wk.if_lt (off := (9)) (t := 37) (q := 31) (by decide +kernel) (by decide) rfl (by first | omega | exact bi_rng _) (fun hc28 => ?_) (fun hc28 => ?_)
      · refine Wk.ldc (z := (-1000000002)) (q := 39) k_Sw_102 (by decide +kernel) (by decide +kernel) rfl ?_
        exact Wk.riP (by decide +kernel) rfl (⟨⟨_, rfl, Or.inr ⟨(by rw [hc.n4, hc.w0, hc.h1]; exact ⟨hc8, hc21⟩), Or.inl ⟨by omega, rfl⟩⟩⟩, fun _ _ _ _ => rfl⟩)
      · refine Wk.iload_n (k := 2) (q := 32) (by decide +kernel) rfl rfl rfl ?_
        refine Wk.bipush (n := 8) (q := 34) (by decide +kernel) (by decide +kernel) rfl ?_
        refine Wk.icmp_lt (off := (6)) (t := 40) (q := 37) (by decide +kernel) (by decide) rfl (by first | omega | exact bi_rng _) (by first | omega | exact bi_rng _) (fun hc34 => ?_) (fun hc34 => ?_)
        · refine Wk.aload_n (k := 0) (q := 41) (by decide +kernel) rfl rfl rfl ?_
          refine Wk.getR (r := 1) (q := 44) f_Sw_12 (by decide +kernel) O_0 (by decide) rfl rfl rfl ?_
          refine Wk.iload_n (k := 1) (q := 45) (by decide +kernel) rfl rfl rfl ?_
          refine Wk.iload_n (k := 2) (q := 46) (by decide +kernel) rfl rfl rfl ?_
          refine Wk.iload_n (k := 3) (q := 47) (by decide +kernel) rfl rfl rfl ?_
          refine Wk.iload (i := 4) (q := 49) (by decide +kernel) rfl rfl ?_
          refine Wk.cSi (q := 52) l_Sw_189 m_Swing_liesOn (by decide +kernel) (fun _ h => h) (Nat.le_of_ble_eq_true rfl) (Nat.le_of_ble_eq_true rfl) rfl (c_Swing_liesOn hc8.1 hc8.2 (by omega) (by omega) hC (by omega) (by omega)) rfl ?_
          refine Wk.ifB_eq (off := (7)) (t := 59) (q := 55) (by decide +kernel) (by decide) rfl (fun hc52 => ?_) (fun hc52 => ?_)
          · refine Wk.iconst (n := 0) (q := 60) (by decide +kernel) rfl ?_
            exact Wk.riP (by decide +kernel) rfl (⟨⟨_, rfl, Or.inr ⟨(by rw [hc.n4, hc.w0, hc.h1]; exact ⟨hc8, hc21⟩), Or.inr ⟨by omega, by first | (rw [bi_t]; exact (eLO hc hc8.1 hc8.2).mpr hc52) | (rw [bi_f]; exact fun w => hc52 ((eLO hc hc8.1 hc8.2).mp w))⟩⟩⟩, fun _ _ _ _ => rfl⟩)
          · refine Wk.iconst (n := 1) (q := 56) (by decide +kernel) rfl ?_
            refine Wk.goto (off := (4)) (q := 60) (by decide +kernel) (by decide) ?_
            exact Wk.riP (by decide +kernel) rfl (⟨⟨_, rfl, Or.inr ⟨(by rw [hc.n4, hc.w0, hc.h1]; exact ⟨hc8, hc21⟩), Or.inr ⟨by omega, by first | (rw [bi_t]; exact (eLO hc hc8.1 hc8.2).mpr hc52) | (rw [bi_f]; exact fun w => hc52 ((eLO hc hc8.1 hc8.2).mp w))⟩⟩⟩, fun _ _ _ _ => rfl⟩)
        · refine Wk.ldc (z := (-1000000002)) (q := 39) k_Sw_102 (by decide +kernel) (by decide +kernel) rfl ?_
          exact Wk.riP (by decide +kernel) rfl (⟨⟨_, rfl, Or.inr ⟨(by rw [hc.n4, hc.w0, hc.h1]; exact ⟨hc8, hc21⟩), Or.inl ⟨by omega, rfl⟩⟩⟩, fun _ _ _ _ => rfl⟩)
    · refine Wk.ldc (z := (-1000000001)) (q := 26) k_Sw_107 (by decide +kernel) (by decide +kernel) rfl ?_
      exact Wk.riP (by decide +kernel) rfl (⟨⟨_, rfl, Or.inl ⟨(by rw [hc.n4, hc.w0, hc.h1]; exact fun w => by first | exact hc8 w.1 | exact hc21 w.2), rfl⟩⟩, fun _ _ _ _ => rfl⟩)
theorem c_Mod_lies {a w x y : Int} (ha : -2147483648 ≤ a ∧ a ≤ 2147483647) (hw : -2147483648 ≤ w ∧ w ≤ 2147483647) (hx : -2147483648 ≤ x ∧ x ≤ 2147483647) (hy : -2147483648 ≤ y ∧ y ≤ 2147483647) (hM : MW I) : Wk xs x_Mod_lies (d + 7) 0 0 0 [some (vr 148), some (vi a), some (vi w), some (vi x), some (vi y)] [] X2 I L (p2 fun v I' L' => (∃ z, v = some (vi z) ∧ LieS I a w x y z) ∧ Kp I' I ∧ L' = L) := by
  obtain ⟨hI, hS, hQ⟩ := id hM
  obtain ⟨hW, hH, hT, hF, hA, hK, hD⟩ := id hI
  have h49 := WH49 (W := I 149 0) (H := I 149 1) (by omega) (by omega)
  refine Wk.aload_n (k := 0) (q := 1) (by decide +kernel) rfl rfl rfl ?_
  refine Wk.iload_n (k := 1) (q := 2) (by decide +kernel) rfl rfl rfl ?_
  refine Wk.cVi (q := 5) l_Mod_134 m_Mod_isShip (by decide +kernel) (fun _ h => h) O_148 rfl (Nat.le_of_ble_eq_true rfl) (Nat.le_of_ble_eq_true rfl) rfl (c_Mod_isShip ha hI) rfl ?_
  refine Wk.ifB_eq (off := (13)) (t := 18) (q := 8) (by decide +kernel) (by decide) rfl (fun hc5 => ?_) (fun hc5 => ?_)
  · refine Wk.ldc (z := (-1000000001)) (q := 20) k_Mod_160 (by decide +kernel) (by decide +kernel) rfl ?_
    exact Wk.riP (by decide +kernel) rfl (⟨⟨_, rfl, Or.inl ⟨(fun w => by first | exact hc5 w.1 | exact hc15 w.2), rfl⟩⟩, Kp.refl _, rfl⟩)
  · refine Wk.aload_n (k := 0) (q := 9) (by decide +kernel) rfl rfl rfl ?_
    refine Wk.iload_n (k := 3) (q := 10) (by decide +kernel) rfl rfl rfl ?_
    refine Wk.iload (i := 4) (q := 12) (by decide +kernel) rfl rfl ?_
    refine Wk.cVi (q := 15) l_Mod_40 m_Mod_isCell (by decide +kernel) (fun _ h => h) O_148 rfl (Nat.le_of_ble_eq_true rfl) (Nat.le_of_ble_eq_true rfl) rfl (c_Mod_isCell hx hy hI) rfl ?_
    refine Wk.ifB_ne (off := (6)) (t := 21) (q := 18) (by decide +kernel) (by decide) rfl (fun hc15 => ?_) (fun hc15 => ?_)
    · obtain ⟨hx0, hx1, hy0, hy1⟩ := id hc15
      obtain ⟨hp, hcl⟩ := hS a hc5.1 hc5.2
      refine Wk.iload_n (k := 2) (q := 22) (by decide +kernel) rfl rfl rfl ?_
      refine Wk.iconst (n := 0) (q := 23) (by decide +kernel) rfl ?_
      refine Wk.bipush (n := 7) (q := 25) (by decide +kernel) (by decide +kernel) rfl ?_
      refine Wk.cSi (q := 28) l_Mod_36 m_Mod_in (by decide +kernel) (fun _ h => h) (Nat.le_of_ble_eq_true rfl) (Nat.le_of_ble_eq_true rfl) rfl (c_Mod_in hw (by omega) (by omega)) rfl ?_
      refine Wk.ifB_ne (off := (6)) (t := 34) (q := 31) (by decide +kernel) (by decide) rfl (fun hc28 => ?_) (fun hc28 => ?_)
      · refine Wk.aload_n (k := 0) (q := 35) (by decide +kernel) rfl rfl rfl ?_
        refine Wk.iload_n (k := 1) (q := 36) (by decide +kernel) rfl rfl rfl ?_
        refine Wk.cSi (q := 39) l_Mod_77 m_Mod_shipAt (by decide +kernel) (fun _ h => h) (Nat.le_of_ble_eq_true rfl) (Nat.le_of_ble_eq_true rfl) rfl (c_Mod_shipAt) rfl ?_
        refine Wk.aload_n (k := 0) (q := 40) (by decide +kernel) rfl rfl rfl ?_
        refine Wk.getR (r := 149) (q := 43) f_Mod_7 (by decide +kernel) O_148 (by decide) rfl rfl rfl ?_
        refine Wk.iload_n (k := 1) (q := 44) (by decide +kernel) rfl rfl rfl ?_
        refine Wk.cSi (q := 47) l_Mod_77 m_Mod_shipAt (by decide +kernel) (fun _ h => h) (Nat.le_of_ble_eq_true rfl) (Nat.le_of_ble_eq_true rfl) rfl (c_Mod_shipAt) rfl ?_
        refine Wk.iconst (n := 3) (q := 48) (by decide +kernel) rfl ?_
        refine Wk.iadd (q := 49) (by decide +kernel) rfl ?_
        refine Wk.iaload (q := 50) (by decide +kernel) A_149 (by first | omega | exact bi_rng _) (by first | omega | exact bi_rng _) rfl ?_
        refine Wk.iload_n (k := 2) (q := 51) (by decide +kernel) rfl rfl rfl ?_
        refine Wk.iload_n (k := 3) (q := 52) (by decide +kernel) rfl rfl rfl ?_
        refine Wk.iload (i := 4) (q := 54) (by decide +kernel) rfl rfl ?_
        refine Wk.cVi (q := 57) l_Mod_61 m_Mod_liesOn (by decide +kernel) (fun _ h => h) O_148 rfl (Nat.le_of_ble_eq_true rfl) (Nat.le_of_ble_eq_true rfl) rfl (c_Mod_liesOn hI hp hcl hc28.1 (by omega) (by omega) (by omega)) rfl ?_
        refine Wk.ifB_eq (off := (7)) (t := 64) (q := 60) (by decide +kernel) (by decide) rfl (fun hc57 => ?_) (fun hc57 => ?_)
        · refine Wk.iconst (n := 0) (q := 65) (by decide +kernel) rfl ?_
          exact Wk.riP (by decide +kernel) rfl (⟨⟨_, rfl, Or.inr ⟨⟨hc5, hc15⟩, Or.inr ⟨hc28, by first | (rw [bi_t hc57]; done) | (rw [bi_f hc57]; done)⟩⟩⟩, Kp.refl _, rfl⟩)
        · refine Wk.iconst (n := 1) (q := 61) (by decide +kernel) rfl ?_
          refine Wk.goto (off := (4)) (q := 65) (by decide +kernel) (by decide) ?_
          exact Wk.riP (by decide +kernel) rfl (⟨⟨_, rfl, Or.inr ⟨⟨hc5, hc15⟩, Or.inr ⟨hc28, by first | (rw [bi_t hc57]; done) | (rw [bi_f hc57]; done)⟩⟩⟩, Kp.refl _, rfl⟩)
      · refine Wk.ldc (z := (-1000000002)) (q := 33) k_Mod_159 (by decide +kernel) (by decide +kernel) rfl ?_
        exact Wk.riP (by decide +kernel) rfl (⟨⟨_, rfl, Or.inr ⟨⟨hc5, hc15⟩, Or.inl ⟨hc28, rfl⟩⟩⟩, Kp.refl _, rfl⟩)
    · refine Wk.ldc (z := (-1000000001)) (q := 20) k_Mod_160 (by decide +kernel) (by decide +kernel) rfl ?_
      exact Wk.riP (by decide +kernel) rfl (⟨⟨_, rfl, Or.inl ⟨(fun w => by first | exact hc5 w.1 | exact hc15 w.2), rfl⟩⟩, Kp.refl _, rfl⟩)
end QCL
theorem CelQ_det {I : IM} {x y q z u : Int} (h : CelQ I x y q z) (g : CelQ I x y q u) : z = u := by
  unfold CelQ at h g
  by_cases q0 : q = 0
  · rw [if_pos q0] at h g
    rw [h, g]
  by_cases q1 : q = 1
  · rw [if_neg q0, if_pos q1] at h g
    rw [h, g]
  by_cases q2 : q = 2
  · rw [if_neg q0, if_neg q1, if_pos q2] at h g
    rw [h, g]
  by_cases q3 : q = 3
  · rw [if_neg q0, if_neg q1, if_neg q2, if_pos q3] at h g
    rw [h, g]
  rw [if_neg q0, if_neg q1, if_neg q2, if_neg q3] at h g
  rw [h, g]
theorem ShpQ_det {I : IM} {a q z u : Int} (h : ShpQ I a q z) (g : ShpQ I a q u) : z = u := by
  unfold ShpQ at h g
  by_cases q0 : q = 0
  · rw [if_pos q0] at h g
    rw [h, g]
  by_cases q1 : q = 1
  · rw [if_neg q0, if_pos q1] at h g
    rw [h, g]
  by_cases q2 : q = 2
  · rw [if_neg q0, if_neg q1, if_pos q2] at h g
    rw [h, g]
  by_cases q3 : q = 3
  · rw [if_neg q0, if_neg q1, if_neg q2, if_pos q3] at h g
    rw [h, g]
  by_cases q4 : q = 4
  · rw [if_neg q0, if_neg q1, if_neg q2, if_neg q3, if_pos q4] at h g
    rw [h, g]
  by_cases q5 : q = 5
  · rw [if_neg q0, if_neg q1, if_neg q2, if_neg q3, if_neg q4, if_pos q5] at h g
    rw [h, g]
  by_cases q6 : q = 6
  · rw [if_neg q0, if_neg q1, if_neg q2, if_neg q3, if_neg q4, if_neg q5, if_pos q6] at h g
    rw [h, g]
  by_cases q7 : q = 7
  · rw [if_neg q0, if_neg q1, if_neg q2, if_neg q3, if_neg q4, if_neg q5, if_neg q6, if_pos q7] at h g
    obtain ⟨m, h1, h2⟩ := h
    obtain ⟨n, g1, g2⟩ := g
    have e : m = n := by
      rcases h1.2 with ⟨hm, hn⟩ | hp
      · rcases g1.2 with ⟨gm, -⟩ | gp
        · omega
        · exact absurd gp (hn n)
      · exact h1.uniq g1 hp
    rw [h2, g2, e]
  rw [if_neg q0, if_neg q1, if_neg q2, if_neg q3, if_neg q4, if_neg q5, if_neg q6, if_neg q7] at h g
  rw [h, g]
theorem CelS_det {I : IM} {x y q z u : Int} (h : CelS I x y q z) (g : CelS I x y q u) : z = u := by
  rcases h with ⟨h1, h2⟩ | ⟨h1, h2⟩ <;> rcases g with ⟨g1, g2⟩ | ⟨g1, g2⟩
  · rw [h2, g2]
  · exact absurd g1 h1
  · exact absurd h1 g1
  · exact CelQ_det h2 g2
theorem ShpS_det {I : IM} {a q z u : Int} (h : ShpS I a q z) (g : ShpS I a q u) : z = u := by
  rcases h with ⟨h1, h2⟩ | ⟨h1, h2⟩ <;> rcases g with ⟨g1, g2⟩ | ⟨g1, g2⟩
  · rw [h2, g2]
  · exact absurd g1 h1
  · exact absurd h1 g1
  · exact ShpQ_det h2 g2
theorem LieS_det {I : IM} {a w x y z u : Int} (h : LieS I a w x y z) (g : LieS I a w x y u) : z = u := by
  rcases h with ⟨h1, h2⟩ | ⟨h1, ⟨h2, h3⟩ | ⟨h2, h3⟩⟩ <;> rcases g with ⟨g1, g2⟩ | ⟨g1, ⟨g2, g3⟩ | ⟨g2, g3⟩⟩
  · rw [h2, g2]
  · exact absurd g1 h1
  · exact absurd g1 h1
  · exact absurd h1 g1
  · rw [h3, g3]
  · exact absurd g2 h2
  · exact absurd h1 g1
  · exact absurd h2 g2
  · rw [h3, g3]
theorem CelS_eq {I' I : IM} (h : I' 149 = I 149) {x y q z : Int} : CelS I' x y q z ↔ CelS I x y q z := by
  unfold CelS CelQ mwat mSW mFr mML mCL; rw [h]
theorem mval_eq {I' I : IM} (h : I' 149 = I 149) {t x y : Int} : mval I' t x y = mval I t x y := by
  unfold mval mwat; rw [h]
theorem ShpS_eq {I' I : IM} (h : I' 149 = I 149) {a q z : Int} : ShpS I' a q z ↔ ShpS I a q z := by
  unfold ShpS ShpQ mSW mCa mML mCL mLO
  simp only [mval_eq h]
  rw [h]
theorem LieS_eq {I' I : IM} (h : I' 149 = I 149) {a w x y z : Int} : LieS I' a w x y z ↔ LieS I a w x y z := by
  unfold LieS mLO; rw [h]
