/-! WHAT IS SO: ships that wait, moves -/
def ZF (I : IM) (k set : Int) (R c : Int → Int) : Prop := (0 ≤ set ∧ set < (2 ^ (I 149 4).toNat : Nat)) ∧ nbit set 5 ≤ 2 ∧ MR (I 149 4) k set (nbit set 5) R ∧ Lea (zG I set R) (zK I R) (nbit set 5 + 1).toNat 0 c ∧ ∀ set2 : Int, 0 ≤ set2 → set2 < (2 ^ (I 149 4).toNat : Nat) → (nbit set2 5 < nbit set 5 ∨ (nbit set2 5 = nbit set 5 ∧ set2 < set)) → ¬ ZE I k set2
theorem nbit_nn (set : Int) : 0 ≤ nbit set 5 ∧ nbit set 5 ≤ 5 := ct_range _ 5
theorem ZF.ze {I : IM} {k set : Int} {R c : Int → Int} (h : ZF I k set R c) : ZE I k set := ⟨R, h.2.2.1, (Exr_pre (by omega) (fun j j0 j1 => by omega)).mp (Lea_ex _ 0 c (by omega) h.2.2.2.1)⟩
theorem ZF.set_uniq {I : IM} {k set set2 : Int} {R R2 c c2 : Int → Int} (h : ZF I k set R c) (g : ZF I k set2 R2 c2) : set = set2 := by
  rcases Int.lt_trichotomy (nbit set 5) (nbit set2 5) with e | e | e
  · exact absurd h.ze (g.2.2.2.2 set h.1.1 h.1.2 (Or.inl e))
  · rcases Int.lt_trichotomy set set2 with q | q | q
    · exact absurd h.ze (g.2.2.2.2 set h.1.1 h.1.2 (Or.inr ⟨e, q⟩))
    · exact q
    · exact absurd g.ze (h.2.2.2.2 set2 g.1.1 g.1.2 (Or.inr ⟨e.symm, q⟩))
  · exact absurd g.ze (h.2.2.2.2 set2 g.1.1 g.1.2 (Or.inl e))
theorem ZF.uniq {I : IM} {k set : Int} {R R2 c c2 : Int → Int} (h : ZF I k set R c) (g : ZF I k set R2 c2) : (∀ i, 0 ≤ i → i ≤ nbit set 5 → R i = R2 i) ∧ ∀ i, 0 ≤ i → i ≤ nbit set 5 → c i = c2 i := by
  have hu := MR_uniq h.2.2.1 g.2.2.1
  have hn := nbit_nn set
  refine ⟨hu, fun i i0 i1 => ?_⟩
  have g4 := Lea_cong (G2 := zG I set R) (K2 := zK I R) (N := nbit set 5 + 1) (fun i s i0 i1 => by unfold zG; rw [hu i i0 (by omega)]) (fun i s j t i0 i1 m0 m1 => by unfold zK; rw [hu i i0 (by omega), hu j m0 (by omega)]) _ 0 c2 c2 (by omega) (by omega) (fun _ _ _ => rfl) g.2.2.2.1
  exact Lea_uniq _ 0 c c2 (by omega) (fun j j0 j1 => by omega) h.2.2.2.1 g4 i i0 (by omega)
theorem ZF.none {I : IM} {k set : Int} {R c : Int → Int} (h : ZF I k set R c) (g : ZNone I k) : False := by
  obtain ⟨n, rfl⟩ := Int.eq_ofNat_of_zero_le h.1.1
  exact g n (Nat.zero_le n) (Int.ofNat_lt.mp h.1.2) h.2.1 h.ze
def WaiQ (I : IM) (k q z : Int) : Prop := if q = 0 then z = I 149 (75 + 4 * k) else if q = 1 then z = I 149 (75 + 4 * k + 1) else if q = 2 then z = I 149 (75 + 4 * k + 2) else if q = 3 then z = ct (fun c => mFr I (75 + 4 * k) 0 c) (I 149 0 * I 149 1).toNat else if q = 4 then Fst (fun c => mFr I (75 + 4 * k) 0 c) (I 149 0 * I 149 1) z else if q = 5 then (∃ c : Int → Int, Lea (zG I 0 (fun i => 5 + i)) (zK I (fun i => 5 + i)) (I 149 5).toNat 0 c ∧ z = c k) ∨ (¬ Exr (zG I 0 (fun i => 5 + i)) (zK I (fun i => 5 + i)) (I 149 5).toNat 0 (fun _ => 0) ∧ z = -1) else if q = 6 then (∃ set R c, ZF I k set R c ∧ z = nbit set 5) ∨ (ZNone I k ∧ z = -1) else if q = 7 then (∃ set R c, ZF I k set R c ∧ z = set) ∨ (ZNone I k ∧ z = -1) else z = -1000000002
def WaiS (I : IM) (k q z : Int) : Prop := (¬ (0 ≤ k ∧ k < I 149 5) ∧ z = -1000000001) ∨ ((0 ≤ k ∧ k < I 149 5) ∧ WaiQ I k q z)
def MovS (I : IM) (k i z : Int) : Prop := (¬ (0 ≤ k ∧ k < I 149 5) ∧ z = -1000000001) ∨ ((0 ≤ k ∧ k < I 149 5) ∧ ((¬ (0 ≤ i ∧ i ≤ 2) ∧ z = -1000000002) ∨ ((0 ≤ i ∧ i ≤ 2) ∧ ((∃ set R c, ZF I k set R c ∧ ((i ≤ nbit set 5 ∧ z = c i) ∨ (¬ i ≤ nbit set 5 ∧ z = -1))) ∨ (ZNone I k ∧ z = -1)))))
theorem MR_slot {I : IM} {k set c : Int} {R : Int → Int} (k0 : 0 ≤ k) (k1 : k < I 1 5) (hm : MR (I 1 4) k set c R) : ∀ i, 0 ≤ i → i < c + 1 → Slot1 I (R i) := fun i i0 i1 => by
  by_cases hi : i = 0
  · rw [hi, hm.1]; exact Or.inr ⟨by omega, by omega⟩
  · exact Or.inl (hm.2.1 i (by omega) (by omega)).1
theorem Lea_G {G : Int → Int → Prop} {K : Int → Int → Int → Int → Prop} : ∀ (n : Nat) (i : Int) (c : Int → Int), Lea G K n i c → ∀ j, i ≤ j → j < i + n → G j (c j)
  | 0, _, _, _ => fun j j0 j1 => by omega
  | n + 1, i, c, h => fun j j0 j1 => by
    by_cases hj : j = i
    · rw [hj]; exact h.1.1.1
    · exact Lea_G n (i + 1) c h.2 j (by omega) (by omega)
theorem eLeaM {I : IM} (h : Cur I) {set : Int} {R : Int → Int} {n : Nat} (hR : ∀ i : Int, 0 ≤ i → i < n → Slot1 I (R i)) {c : Int → Int} (h1 : Lea (mG I set R) (mK I R) n 0 c) : Lea (zG I set R) (zK I R) n 0 (fun j => fsp (I 1 0) (c j)) :=
  Lea_map (N := n) (fun i s t _ _ hs ht => eLt h i s t hs ht) (eG h hR) (eK h hR) n 0 c _ (by omega) (by omega) (fun j j0 j1 => by omega) (fun _ _ _ => rfl) h1
theorem eME {I : IM} (h : Cur I) {k set : Int} (k0 : 0 ≤ k) (k1 : k < I 1 5) : ME I k set ↔ ZE I k set := by
  have hn := nbit_nn set
  unfold ME ZE
  rw [h.n4]
  constructor
  · rintro ⟨R, h1, h2⟩
    exact ⟨R, h1, (eEx h (fun i i0 i1 => MR_slot k0 k1 h1 i i0 (by omega)) _ _).mp h2⟩
  · rintro ⟨R, h1, h2⟩
    exact ⟨R, h1, (eEx h (fun i i0 i1 => MR_slot k0 k1 h1 i i0 (by omega)) _ _).mpr h2⟩
theorem eMv {I I2 : IM} (h : Cur I) {k set : Int} {R : Int → Int} (k0 : 0 ≤ k) (k1 : k < I 1 5) (hm : MvFound I k I2 set R) : ZF I k set R (fun j => fsp (I 1 0) (I2 124 j)) := by
  have hn := nbit_nn set
  obtain ⟨m1, m2, m3, m4, -, -, -, m8⟩ := hm
  refine ⟨by rw [h.n4]; exact m1, m2, by rw [h.n4]; exact m3, eLeaM h (fun i i0 i1 => MR_slot k0 k1 m3 i i0 (by omega)) m4, fun set2 q0 q1 q2 q3 => ?_⟩
  rw [h.n4] at q1
  obtain ⟨n, rfl⟩ := Int.eq_ofNat_of_zero_le q0
  exact m8 n (Nat.zero_le n) (Int.ofNat_lt.mp q1) q2 ((eME h k0 k1).mpr q3)
theorem eMn {I : IM} (h : Cur I) {k : Int} (k0 : 0 ≤ k) (k1 : k < I 1 5) (hm : MvNone I k) : ZNone I k := fun set q0 q1 q2 q3 => by
  rw [h.n4] at q1
  exact hm set q0 q1 q2 ((eME h k0 k1).mpr q3)
theorem eCell {I : IM} (h : Cur I) {k c : Int} (k0 : 0 ≤ k) (k1 : k < I 1 5) (c0 : 0 ≤ c) (c1 : c < I 1 0 * I 1 1) : mFr I (75 + 4 * k) 0 c ↔ cPlace I k (c % I 1 0) (c / I 1 0) := by
  obtain ⟨hx, hy⟩ := mcoord h.1.1.1.1 c0 c1
  have e : c / I 1 0 * I 1 0 + c % I 1 0 = c := by
    have := Int.emod_add_mul_ediv c (I 1 0)
    rw [Int.mul_comm] at this
    omega
  have q := eFc h (s := 5 + k) (mv := 0) (Or.inr ⟨by omega, by omega⟩) ⟨hx.1, hx.2, hy.1, hy.2⟩
  rw [e, show 55 + 4 * (5 + k) = 75 + 4 * k by omega] at q
  exact q.trans ePl.symm
theorem eCt {I : IM} (h : Cur I) {k : Int} (k0 : 0 ≤ k) (k1 : k < I 1 5) {u : Int64} (hu : LB u (cPlace I k)) : ct (fun s => bl u s = true) 64 = ct (fun c => mFr I (75 + 4 * k) 0 c) (I 149 0 * I 149 1).toNat := by
  obtain ⟨hW, hH, -⟩ := h.1.1
  have hw := h.wh
  refine (LB_ct hu).trans ((ct_both (P := cPlace I k) hW hH (fun x y p => p.1.1)).trans ?_)
  rw [h.w0, h.h1]
  exact ct_cong fun c c0 c1 => (eCell h k0 k1 c0 (by omega)).symm
theorem eFst {I : IM} (h : Cur I) {k : Int} (k0 : 0 ≤ k) (k1 : k < I 1 5) {u : Int64} (hu : LB u (cPlace I k)) {s : Int} (hs : (s = -1 ∧ ∀ i, 0 ≤ i → i < 64 → bl u i = false) ∨ (0 ≤ s ∧ s < 64 ∧ bl u s = true ∧ ∀ i, 0 ≤ i → i < s → bl u i = false)) : Fst (fun c => mFr I (75 + 4 * k) 0 c) (I 149 0 * I 149 1) (if s = -1 then -1 else (s / 8) * I 1 0 + s % 8) := by
  obtain ⟨hW, hH, -⟩ := h.1.1
  have hw := h.wh
  have key : ∀ c, 0 ≤ c → c < I 1 0 * I 1 1 → mFr I (75 + 4 * k) 0 c → ∃ t, (0 ≤ t ∧ t < 64) ∧ bl u t = true ∧ t % 8 < I 1 0 ∧ c = fsp (I 1 0) t := by
    intro c c0 c1 hf
    obtain ⟨hx, hy⟩ := mcoord hW.1 c0 c1
    have hp := (eCell h k0 k1 c0 c1).mp hf
    have e1 : (c / I 1 0 * 8 + c % I 1 0) % 8 = c % I 1 0 := by omega
    have e2 : (c / I 1 0 * 8 + c % I 1 0) / 8 = c / I 1 0 := by omega
    refine ⟨c / I 1 0 * 8 + c % I 1 0, by omega, (hu _ (by omega) (by omega)).mpr (by rw [e1, e2]; exact hp), by omega, ?_⟩
    unfold fsp
    rw [e1, e2]
    have := Int.emod_add_mul_ediv c (I 1 0)
    rw [Int.mul_comm] at this
    omega
  rw [h.w0, h.h1]
  rcases hs with ⟨s1, s2⟩ | ⟨s0, s1, s2, s3⟩
  · rw [if_pos s1]
    refine Or.inl ⟨rfl, fun c c0 c1 hf => ?_⟩
    obtain ⟨t, t0, t1, -⟩ := key c c0 c1 hf
    rw [s2 t t0.1 t0.2] at t1
    cases t1
  · rw [if_neg (by omega)]
    have hp := (hu s s0 s1).mp s2
    obtain ⟨x0, x1, y0, y1⟩ := hp.1.1
    have hcb := cellB (W := I 1 0) (H := I 1 1) ⟨x0, x1⟩ ⟨y0, y1⟩
    have hd := divmod (W := I 1 0) (y := s / 8) x0 x1
    refine Or.inr ⟨⟨hcb.1, hcb.2.1⟩, (eCell h k0 k1 hcb.1 hcb.2.1).mpr (by rw [hd.1, hd.2]; exact hp), fun c c0 c1 hf => ?_⟩
    obtain ⟨t, t0, t1, t2, rfl⟩ := key c c0 (by omega) hf
    have := (fsp_lt t2 x1).mp c1
    rw [s3 t t0.1 this] at t1
    cases t1
section QWT
variable {xs : RO} {d : Nat} {I : IM} {L : LM}

theorem c_Sw_waits {k q : Int} (hk : -2147483648 ≤ k ∧ k ≤ 2147483647) (hq : -2147483648 ≤ q ∧ q ≤ 2147483647) (hI : Cur I) : Wk xs x_Sw_waits (d + 12) 0 0 0 [some (vr 0), some (vi k), some (vi q), none] [] X2 I L (p2 fun v I' _ => (∃ z, v = some (vi z) ∧ WaiS I k q z) ∧ FrS I' I) := by
  have hc : Cur I := hI
  have hC : CW I := hc.1
  obtain ⟨hW, hH, hT, hF, hA, hB, hD⟩ := id hC.1
  refine Wk.aload_n (k := 0) (q := 1) (by decide +kernel) rfl rfl rfl ?_
  refine Wk.getR (r := 1) (q := 4) f_Sw_12 (by decide +kernel) O_0 (by decide) rfl rfl rfl ?_
  refine Wk.iload_n (k := 1) (q := 5) (by decide +kernel) rfl rfl rfl ?_
  refine Wk.cVi (q := 8) l_Sw_162 m_Harb_hasWaiting (by decide +kernel) (fun _ h => h) O_1 rfl (Nat.le_of_ble_eq_true rfl) (Nat.le_of_ble_eq_true rfl) rfl (c_Harb_hasWaiting hk hB) rfl ?_
  refine Wk.ifB_ne (off := (6)) (t := 14) (q := 11) (by decide +kernel) (by decide) rfl (fun hc8 => ?_) (fun hc8 => ?_)
  · have hk8 := hc8
    have hin : 0 ≤ k ∧ k < I 149 5 := by rw [hc.n5]; exact hc8
    have hsl := hc.2.2.2.1 (5 + k) (Or.inr (by omega))
    refine Wk.iconst (n := 5) (q := 15) (by decide +kernel) rfl ?_
    refine Wk.iload_n (k := 1) (q := 16) (by decide +kernel) rfl rfl rfl ?_
    refine Wk.iadd (q := 17) (by decide +kernel) rfl ?_
    refine Wk.istore_n (k := 3) (q := 18) (by decide +kernel) rfl (by decide) rfl (fun _ h => h) rfl ?_
    refine Wk.iload_n (k := 2) (q := 19) (by decide +kernel) rfl rfl rfl ?_
    rcases Classical.em (q < 0 ∨ 7 < q) with hsw | hsw
    · refine Wk.tabOut (dflt := 200) (lo := 0) (hi := 7) (offs := #[45, 55, 65, 75, 91, 111, 143, 173]) (len := 45) (t := 219) (by decide +kernel) (hq) hsw (by decide) ?_
      refine Wk.ldc (z := (-1000000002)) (q := 221) k_Sw_102 (by decide +kernel) (by decide +kernel) rfl ?_
      exact Wk.riP (by decide +kernel) rfl (⟨⟨_, rfl, Or.inr ⟨hin, by unfold WaiQ; rw [if_neg (by omega), if_neg (by omega), if_neg (by omega), if_neg (by omega), if_neg (by omega), if_neg (by omega), if_neg (by omega), if_neg (by omega)]⟩⟩, fun _ _ _ _ => rfl⟩)
    · have hsx : q = 0 ∨ q = 1 ∨ q = 2 ∨ q = 3 ∨ q = 4 ∨ q = 5 ∨ q = 6 ∨ q = 7 := by omega
      rcases hsx with rfl | rfl | rfl | rfl | rfl | rfl | rfl | rfl
      · refine Wk.tabIn (dflt := 200) (lo := 0) (hi := 7) (offs := #[45, 55, 65, 75, 91, 111, 143, 173]) (len := 45) (off := 45) (t := 64) (by decide +kernel) (by decide) (by decide) (by decide) (by decide) (by decide) ?_
        refine Wk.aload_n (k := 0) (q := 65) (by decide +kernel) rfl rfl rfl ?_
        refine Wk.getR (r := 1) (q := 68) f_Sw_12 (by decide +kernel) O_0 (by decide) rfl rfl rfl ?_
        refine Wk.getR (r := 3) (q := 71) f_Sw_128 (by decide +kernel) O_1 (by decide) rfl rfl rfl ?_
        refine Wk.iload_n (k := 3) (q := 72) (by decide +kernel) rfl rfl rfl ?_
        refine Wk.iaload (q := 73) (by decide +kernel) A_3 (by first | omega | exact bi_rng _) (by first | omega | exact bi_rng _) rfl ?_
        exact Wk.riP (by decide +kernel) rfl (⟨⟨_, rfl, Or.inr ⟨hin, by unfold WaiQ; rw [if_pos rfl] <;> exact ((by rw [show 75 + 4 * k = 55 + 4 * (5 + k) by omega]; exact hsl.1))⟩⟩, fun _ _ _ _ => rfl⟩)
      · refine Wk.tabIn (dflt := 200) (lo := 0) (hi := 7) (offs := #[45, 55, 65, 75, 91, 111, 143, 173]) (len := 45) (off := 55) (t := 74) (by decide +kernel) (by decide) (by decide) (by decide) (by decide) (by decide) ?_
        refine Wk.aload_n (k := 0) (q := 75) (by decide +kernel) rfl rfl rfl ?_
        refine Wk.getR (r := 1) (q := 78) f_Sw_12 (by decide +kernel) O_0 (by decide) rfl rfl rfl ?_
        refine Wk.getR (r := 4) (q := 81) f_Sw_132 (by decide +kernel) O_1 (by decide) rfl rfl rfl ?_
        refine Wk.iload_n (k := 3) (q := 82) (by decide +kernel) rfl rfl rfl ?_
        refine Wk.iaload (q := 83) (by decide +kernel) A_4 (by first | omega | exact bi_rng _) (by first | omega | exact bi_rng _) rfl ?_
        exact Wk.riP (by decide +kernel) rfl (⟨⟨_, rfl, Or.inr ⟨hin, by unfold WaiQ; rw [if_neg (by decide), if_pos rfl] <;> exact ((by rw [show 75 + 4 * k = 55 + 4 * (5 + k) by omega]; exact hsl.2.1))⟩⟩, fun _ _ _ _ => rfl⟩)
      · refine Wk.tabIn (dflt := 200) (lo := 0) (hi := 7) (offs := #[45, 55, 65, 75, 91, 111, 143, 173]) (len := 45) (off := 65) (t := 84) (by decide +kernel) (by decide) (by decide) (by decide) (by decide) (by decide) ?_
        refine Wk.aload_n (k := 0) (q := 85) (by decide +kernel) rfl rfl rfl ?_
        refine Wk.getR (r := 1) (q := 88) f_Sw_12 (by decide +kernel) O_0 (by decide) rfl rfl rfl ?_
        refine Wk.getR (r := 5) (q := 91) f_Sw_135 (by decide +kernel) O_1 (by decide) rfl rfl rfl ?_
        refine Wk.iload_n (k := 3) (q := 92) (by decide +kernel) rfl rfl rfl ?_
        refine Wk.iaload (q := 93) (by decide +kernel) A_5 (by first | omega | exact bi_rng _) (by first | omega | exact bi_rng _) rfl ?_
        exact Wk.riP (by decide +kernel) rfl (⟨⟨_, rfl, Or.inr ⟨hin, by unfold WaiQ; rw [if_neg (by decide), if_neg (by decide), if_pos rfl] <;> exact ((by rw [show 75 + 4 * k = 55 + 4 * (5 + k) by omega]; exact hsl.2.2))⟩⟩, fun _ _ _ _ => rfl⟩)
      · refine Wk.tabIn (dflt := 200) (lo := 0) (hi := 7) (offs := #[45, 55, 65, 75, 91, 111, 143, 173]) (len := 45) (off := 75) (t := 94) (by decide +kernel) (by decide) (by decide) (by decide) (by decide) (by decide) ?_
        refine Wk.aload_n (k := 0) (q := 95) (by decide +kernel) rfl rfl rfl ?_
        refine Wk.getR (r := 122) (q := 98) f_Sw_26 (by decide +kernel) O_0 (by decide) rfl rfl rfl ?_
        refine Wk.aload_n (k := 0) (q := 99) (by decide +kernel) rfl rfl rfl ?_
        refine Wk.getR (r := 1) (q := 102) f_Sw_12 (by decide +kernel) O_0 (by decide) rfl rfl rfl ?_
        refine Wk.iload_n (k := 1) (q := 103) (by decide +kernel) rfl rfl rfl ?_
        refine Wk.cV (q := 106) l_Sw_165 m_Sear_placesFor (by decide +kernel) (fun _ h => h) O_122 rfl (Nat.le_of_ble_eq_true rfl) (Nat.le_of_ble_eq_true rfl) rfl (c_Sear_placesFor hk8.1 hk8.2 hC) rfl (fun v I1 L1 hP => ?_)
        obtain ⟨⟨u, rfl, hu⟩, e1⟩ := hP
        rw [e1]
        refine Wk.cSi (q := 109) l_Sw_87 m_Long_bitCount (by decide +kernel) (fun _ h => h) (Nat.le_of_ble_eq_true rfl) (Nat.le_of_ble_eq_true rfl) rfl (c_Long_bitCount) rfl ?_
        exact Wk.riP (by decide +kernel) rfl (⟨⟨_, rfl, Or.inr ⟨hin, by unfold WaiQ; rw [if_neg (by decide), if_neg (by decide), if_neg (by decide), if_pos rfl] <;> exact (eCt hc hk8.1 hk8.2 hu)⟩⟩, fun _ _ _ _ => rfl⟩)
      · refine Wk.tabIn (dflt := 200) (lo := 0) (hi := 7) (offs := #[45, 55, 65, 75, 91, 111, 143, 173]) (len := 45) (off := 91) (t := 110) (by decide +kernel) (by decide) (by decide) (by decide) (by decide) (by decide) ?_
        refine Wk.aload_n (k := 0) (q := 111) (by decide +kernel) rfl rfl rfl ?_
        refine Wk.aload_n (k := 0) (q := 112) (by decide +kernel) rfl rfl rfl ?_
        refine Wk.getR (r := 122) (q := 115) f_Sw_26 (by decide +kernel) O_0 (by decide) rfl rfl rfl ?_
        refine Wk.aload_n (k := 0) (q := 116) (by decide +kernel) rfl rfl rfl ?_
        refine Wk.getR (r := 1) (q := 119) f_Sw_12 (by decide +kernel) O_0 (by decide) rfl rfl rfl ?_
        refine Wk.iload_n (k := 1) (q := 120) (by decide +kernel) rfl rfl rfl ?_
        refine Wk.cV (q := 123) l_Sw_165 m_Sear_placesFor (by decide +kernel) (fun _ h => h) O_122 rfl (Nat.le_of_ble_eq_true rfl) (Nat.le_of_ble_eq_true rfl) rfl (c_Sear_placesFor hk8.1 hk8.2 hC) rfl (fun v I1 L1 hP => ?_)
        obtain ⟨⟨u, rfl, hu⟩, e1⟩ := hP
        rw [e1]
        refine Wk.cS (q := 126) l_Sw_168 m_Sw_firstOf (by decide +kernel) (fun _ h => h) (Nat.le_of_ble_eq_true rfl) (Nat.le_of_ble_eq_true rfl) rfl (c_Sw_firstOf) rfl (fun v I2 L2 hP => ?_)
        obtain ⟨⟨s, rfl, hs⟩, e2, e3⟩ := hP
        rw [e2, e3]
        refine Wk.cVi (q := 129) l_Sw_171 m_Sw_cellOfSpot (by decide +kernel) (fun _ h => h) O_0 rfl (Nat.le_of_ble_eq_true rfl) (Nat.le_of_ble_eq_true rfl) rfl (c_Sw_cellOfSpot (by omega)) rfl ?_
        exact Wk.riP (by decide +kernel) rfl (⟨⟨_, rfl, Or.inr ⟨hin, by unfold WaiQ; rw [if_neg (by decide), if_neg (by decide), if_neg (by decide), if_neg (by decide), if_pos rfl] <;> exact (eFst hc hk8.1 hk8.2 hu hs)⟩⟩, fun _ _ _ _ => rfl⟩)
      · refine Wk.tabIn (dflt := 200) (lo := 0) (hi := 7) (offs := #[45, 55, 65, 75, 91, 111, 143, 173]) (len := 45) (off := 111) (t := 130) (by decide +kernel) (by decide) (by decide) (by decide) (by decide) (by decide) ?_
        refine Wk.aload_n (k := 0) (q := 131) (by decide +kernel) rfl rfl rfl ?_
        refine Wk.getR (r := 122) (q := 134) f_Sw_26 (by decide +kernel) O_0 (by decide) rfl rfl rfl ?_
        refine Wk.aload_n (k := 0) (q := 135) (by decide +kernel) rfl rfl rfl ?_
        refine Wk.getR (r := 1) (q := 138) f_Sw_12 (by decide +kernel) O_0 (by decide) rfl rfl rfl ?_
        refine Wk.cV (q := 141) l_Sw_76 m_Sear_settlesAll (by decide +kernel) (fun _ h => h) O_122 rfl (Nat.le_of_ble_eq_true rfl) (Nat.le_of_ble_eq_true rfl) rfl (c_Sear_settlesAll hC) rfl (fun v I1 L1 hP => ?_)
        obtain ⟨hv, q1⟩ := hP
        have e1 := q1 1 (by decide) (by decide) (by decide)
        obtain ⟨z, hz, hz2⟩ : ∃ z : Int, (z = 0 ∨ z = 1) ∧ v = some (vi z) := by
          rcases hv with ⟨rfl, -⟩ | ⟨rfl, -⟩
          · exact ⟨1, Or.inr rfl, rfl⟩
          · exact ⟨0, Or.inl rfl, rfl⟩
        subst hz2
        have hA1 : z = 1 → Lea (aG I) (aK I) (I 1 5).toNat 0 (I1 124) := fun e => by
          rcases hv with ⟨-, hv⟩ | ⟨hv, -⟩
          · exact hv
          · injection hv with hv; have : z = 0 := by injection hv
            omega
        have hA0 : z = 0 → ¬ Exr (aG I) (aK I) (I 1 5).toNat 0 (fun _ => 0) := fun e => by
          rcases hv with ⟨hv, -⟩ | ⟨-, hv⟩
          · injection hv with hv; have : z = 1 := by injection hv
            omega
          · exact hv
        refine Wk.if_eq (off := (19)) (t := 160) (q := 144) (by decide +kernel) (by decide) rfl (by first | omega | exact bi_rng _) (fun hc141 => ?_) (fun hc141 => ?_)
        · refine Wk.iconst (n := (-1)) (q := 161) (by decide +kernel) rfl ?_
          exact Wk.riP (by decide +kernel) rfl (⟨⟨_, rfl, Or.inr ⟨hin, by unfold WaiQ; rw [if_neg (by decide), if_neg (by decide), if_neg (by decide), if_neg (by decide), if_neg (by decide), if_pos rfl] <;> exact (by first | exact Or.inr ⟨fun w => hA0 hc141 ((eAll _ hc).mpr w), rfl⟩ | exact Or.inl ⟨_, hlz, hval⟩)⟩⟩, q1⟩)
        · have hl := hA1 (by omega)
          have hg := Lea_G _ 0 _ hl k (by omega) (by omega)
          have hlz : Lea (zG I 0 (fun i => 5 + i)) (zK I (fun i => 5 + i)) (I 149 5).toNat 0  (fun j => fsp (I 1 0) (I1 124 j)) := by
            rw [aG_mG, aK_mK] at hl
            rw [hc.n5]
            exact eLeaM hc (fun i i0 i1 => Or.inr ⟨by omega, by omega⟩) hl
          have hval : (if I1 124 k = -1 then -1 else I1 124 k / 8 * I1 1 0 + I1 124 k % 8) = fsp (I 1 0) (I1 124 k) := by
            rw [if_neg (by have := hg.1; omega), e1]
            rfl
          refine Wk.aload_n (k := 0) (q := 145) (by decide +kernel) rfl rfl rfl ?_
          refine Wk.aload_n (k := 0) (q := 146) (by decide +kernel) rfl rfl rfl ?_
          refine Wk.getR (r := 122) (q := 149) f_Sw_26 (by decide +kernel) O_0 (by decide) rfl rfl rfl ?_
          refine Wk.getR (r := 124) (q := 152) f_Sw_175 (by decide +kernel) O_122 (by decide) rfl rfl rfl ?_
          refine Wk.iload_n (k := 1) (q := 153) (by decide +kernel) rfl rfl rfl ?_
          refine Wk.iaload (q := 154) (by decide +kernel) A_124 (by first | omega | exact bi_rng _) (by first | omega | exact bi_rng _) rfl ?_
          refine Wk.cVi (q := 157) l_Sw_171 m_Sw_cellOfSpot (by decide +kernel) (fun _ h => h) O_0 rfl (Nat.le_of_ble_eq_true rfl) (Nat.le_of_ble_eq_true rfl) rfl (c_Sw_cellOfSpot (by have := hg.1; omega)) rfl ?_
          refine Wk.goto (off := (4)) (q := 161) (by decide +kernel) (by decide) ?_
          exact Wk.riP (by decide +kernel) rfl (⟨⟨_, rfl, Or.inr ⟨hin, by unfold WaiQ; rw [if_neg (by decide), if_neg (by decide), if_neg (by decide), if_neg (by decide), if_neg (by decide), if_pos rfl] <;> exact (by first | exact Or.inr ⟨fun w => hA0 hc141 ((eAll _ hc).mpr w), rfl⟩ | exact Or.inl ⟨_, hlz, hval⟩)⟩⟩, q1⟩)
      · refine Wk.tabIn (dflt := 200) (lo := 0) (hi := 7) (offs := #[45, 55, 65, 75, 91, 111, 143, 173]) (len := 45) (off := 143) (t := 162) (by decide +kernel) (by decide) (by decide) (by decide) (by decide) (by decide) ?_
        refine Wk.aload_n (k := 0) (q := 163) (by decide +kernel) rfl rfl rfl ?_
        refine Wk.getR (r := 122) (q := 166) f_Sw_26 (by decide +kernel) O_0 (by decide) rfl rfl rfl ?_
        refine Wk.aload_n (k := 0) (q := 167) (by decide +kernel) rfl rfl rfl ?_
        refine Wk.getR (r := 1) (q := 170) f_Sw_12 (by decide +kernel) O_0 (by decide) rfl rfl rfl ?_
        refine Wk.iload_n (k := 1) (q := 171) (by decide +kernel) rfl rfl rfl ?_
        refine Wk.cV (q := 174) l_Sw_178 m_Sear_settlesByMoves (by decide +kernel) (fun _ h => h) O_122 rfl (Nat.le_of_ble_eq_true rfl) (Nat.le_of_ble_eq_true rfl) rfl (c_Sear_settlesByMoves hk8.1 hk8.2 hC) rfl (fun v I1 L1 hP => ?_)
        obtain ⟨hv, q1⟩ := hP
        have e1 := q1 1 (by decide) (by decide) (by decide)
        obtain ⟨z, hz, hz2⟩ : ∃ z : Int, (z = 0 ∨ z = 1) ∧ v = some (vi z) := by
          rcases hv with ⟨rfl, -⟩ | ⟨rfl, -⟩
          · exact ⟨1, Or.inr rfl, rfl⟩
          · exact ⟨0, Or.inl rfl, rfl⟩
        subst hz2
        have hM1 : z = 1 → ∃ set R, MvFound I k I1 set R := fun e => by
          rcases hv with ⟨-, hv⟩ | ⟨hv, -⟩
          · exact hv
          · injection hv with hv; have : z = 0 := by injection hv
            omega
        have hM0 : z = 0 → MvNone I k := fun e => by
          rcases hv with ⟨hv, -⟩ | ⟨-, hv⟩
          · injection hv with hv; have : z = 1 := by injection hv
            omega
          · exact hv
        refine Wk.if_eq (off := (16)) (t := 190) (q := 177) (by decide +kernel) (by decide) rfl (by first | omega | exact bi_rng _) (fun hc174 => ?_) (fun hc174 => ?_)
        · refine Wk.iconst (n := (-1)) (q := 191) (by decide +kernel) rfl ?_
          exact Wk.riP (by decide +kernel) rfl (⟨⟨_, rfl, Or.inr ⟨hin, by unfold WaiQ; rw [if_neg (by decide), if_neg (by decide), if_neg (by decide), if_neg (by decide), if_neg (by decide), if_neg (by decide), if_pos rfl] <;> exact (by first | exact Or.inr ⟨eMn hc hk8.1 hk8.2 (hM0 hc174), rfl⟩ | exact Or.inl ⟨set, R, _, eMv hc hk8.1 hk8.2 hm, by rw [hm3]; first | done | rfl⟩)⟩⟩, q1⟩)
        · obtain ⟨set, R, hm⟩ := hM1 (by omega)
          have hm3 := hm.2.2.2.2.1
          have hmb := hm.1
          have hp5 : 2 ^ (I 1 4).toNat ≤ 2 ^ 5 := Nat.pow_le_pow_right (by decide) (by omega)
          refine Wk.aload_n (k := 0) (q := 178) (by decide +kernel) rfl rfl rfl ?_
          refine Wk.getR (r := 122) (q := 181) f_Sw_26 (by decide +kernel) O_0 (by decide) rfl rfl rfl ?_
          refine Wk.getI (z := 3) (q := 184) f_Sw_182 (by decide +kernel) O_122 (by decide) rfl rfl rfl ?_
          refine Wk.cSi (q := 187) l_Sw_185 m_Integer_bitCount (by decide +kernel) (fun _ h => h) (Nat.le_of_ble_eq_true rfl) (Nat.le_of_ble_eq_true rfl) rfl (c_Integer_bitCount (by rw [hm3]; exact hmb.1) (by rw [hm3]; omega)) rfl ?_
          refine Wk.goto (off := (4)) (q := 191) (by decide +kernel) (by decide) ?_
          exact Wk.riP (by decide +kernel) rfl (⟨⟨_, rfl, Or.inr ⟨hin, by unfold WaiQ; rw [if_neg (by decide), if_neg (by decide), if_neg (by decide), if_neg (by decide), if_neg (by decide), if_neg (by decide), if_pos rfl] <;> exact (by first | exact Or.inr ⟨eMn hc hk8.1 hk8.2 (hM0 hc174), rfl⟩ | exact Or.inl ⟨set, R, _, eMv hc hk8.1 hk8.2 hm, by rw [hm3]; first | done | rfl⟩)⟩⟩, q1⟩)
      · refine Wk.tabIn (dflt := 200) (lo := 0) (hi := 7) (offs := #[45, 55, 65, 75, 91, 111, 143, 173]) (len := 45) (off := 173) (t := 192) (by decide +kernel) (by decide) (by decide) (by decide) (by decide) (by decide) ?_
        refine Wk.aload_n (k := 0) (q := 193) (by decide +kernel) rfl rfl rfl ?_
        refine Wk.getR (r := 122) (q := 196) f_Sw_26 (by decide +kernel) O_0 (by decide) rfl rfl rfl ?_
        refine Wk.aload_n (k := 0) (q := 197) (by decide +kernel) rfl rfl rfl ?_
        refine Wk.getR (r := 1) (q := 200) f_Sw_12 (by decide +kernel) O_0 (by decide) rfl rfl rfl ?_
        refine Wk.iload_n (k := 1) (q := 201) (by decide +kernel) rfl rfl rfl ?_
        refine Wk.cV (q := 204) l_Sw_178 m_Sear_settlesByMoves (by decide +kernel) (fun _ h => h) O_122 rfl (Nat.le_of_ble_eq_true rfl) (Nat.le_of_ble_eq_true rfl) rfl (c_Sear_settlesByMoves hk8.1 hk8.2 hC) rfl (fun v I1 L1 hP => ?_)
        obtain ⟨hv, q1⟩ := hP
        have e1 := q1 1 (by decide) (by decide) (by decide)
        obtain ⟨z, hz, hz2⟩ : ∃ z : Int, (z = 0 ∨ z = 1) ∧ v = some (vi z) := by
          rcases hv with ⟨rfl, -⟩ | ⟨rfl, -⟩
          · exact ⟨1, Or.inr rfl, rfl⟩
          · exact ⟨0, Or.inl rfl, rfl⟩
        subst hz2
        have hM1 : z = 1 → ∃ set R, MvFound I k I1 set R := fun e => by
          rcases hv with ⟨-, hv⟩ | ⟨hv, -⟩
          · exact hv
          · injection hv with hv; have : z = 0 := by injection hv
            omega
        have hM0 : z = 0 → MvNone I k := fun e => by
          rcases hv with ⟨hv, -⟩ | ⟨-, hv⟩
          · injection hv with hv; have : z = 1 := by injection hv
            omega
          · exact hv
        refine Wk.if_eq (off := (13)) (t := 217) (q := 207) (by decide +kernel) (by decide) rfl (by first | omega | exact bi_rng _) (fun hc204 => ?_) (fun hc204 => ?_)
        · refine Wk.iconst (n := (-1)) (q := 218) (by decide +kernel) rfl ?_
          exact Wk.riP (by decide +kernel) rfl (⟨⟨_, rfl, Or.inr ⟨hin, by unfold WaiQ; rw [if_neg (by decide), if_neg (by decide), if_neg (by decide), if_neg (by decide), if_neg (by decide), if_neg (by decide), if_neg (by decide), if_pos rfl] <;> exact (by first | exact Or.inr ⟨eMn hc hk8.1 hk8.2 (hM0 hc204), rfl⟩ | exact Or.inl ⟨set, R, _, eMv hc hk8.1 hk8.2 hm, hm3⟩)⟩⟩, q1⟩)
        · obtain ⟨set, R, hm⟩ := hM1 (by omega)
          have hm3 := hm.2.2.2.2.1
          have hmb := hm.1
          have hp5 : 2 ^ (I 1 4).toNat ≤ 2 ^ 5 := Nat.pow_le_pow_right (by decide) (by omega)
          refine Wk.aload_n (k := 0) (q := 208) (by decide +kernel) rfl rfl rfl ?_
          refine Wk.getR (r := 122) (q := 211) f_Sw_26 (by decide +kernel) O_0 (by decide) rfl rfl rfl ?_
          refine Wk.getI (z := 3) (q := 214) f_Sw_182 (by decide +kernel) O_122 (by decide) rfl rfl rfl ?_
          refine Wk.goto (off := (4)) (q := 218) (by decide +kernel) (by decide) ?_
          exact Wk.riP (by decide +kernel) rfl (⟨⟨_, rfl, Or.inr ⟨hin, by unfold WaiQ; rw [if_neg (by decide), if_neg (by decide), if_neg (by decide), if_neg (by decide), if_neg (by decide), if_neg (by decide), if_neg (by decide), if_pos rfl] <;> exact (by first | exact Or.inr ⟨eMn hc hk8.1 hk8.2 (hM0 hc204), rfl⟩ | exact Or.inl ⟨set, R, _, eMv hc hk8.1 hk8.2 hm, hm3⟩)⟩⟩, q1⟩)
  · have hout : ¬ (0 ≤ k ∧ k < I 149 5) := by rw [hc.n5]; exact hc8
    refine Wk.ldc (z := (-1000000001)) (q := 13) k_Sw_107 (by decide +kernel) (by decide +kernel) rfl ?_
    exact Wk.riP (by decide +kernel) rfl (⟨⟨_, rfl, Or.inl ⟨hout, rfl⟩⟩, fun _ _ _ _ => rfl⟩)
theorem c_Mod_inFirst {k : Int} (h0 : 0 ≤ k) (h1 : k < I 149 5) (hM : MW I) : Wk xs x_Mod_inFirst (d + 9) 0 0 0 [some (vr 148), some (vi k)] [] X2 I L (p2 fun v I' L' => (∃ z, v = some (vi z) ∧ ((∃ c : Int → Int, Lea (zG I 0 (fun i => 5 + i)) (zK I (fun i => 5 + i)) (I 149 5).toNat 0 c ∧ z = c k) ∨ (¬ Exr (zG I 0 (fun i => 5 + i)) (zK I (fun i => 5 + i)) (I 149 5).toNat 0 (fun _ => 0) ∧ z = -1))) ∧ Kp I' I ∧ L' = L) := by
  obtain ⟨hI, hS, hQ⟩ := id hM
  obtain ⟨hW, hH, hT, hF, hA, hK, hD⟩ := id hI
  have h49 := WH49 (W := I 149 0) (H := I 149 1) (by omega) (by omega)
  refine Wk.aload_n (k := 0) (q := 1) (by decide +kernel) rfl rfl rfl ?_
  refine Wk.cV (q := 4) l_Mod_140 m_Mod_placesForAll (by decide +kernel) (fun _ h => h) O_148 rfl (Nat.le_of_ble_eq_true rfl) (Nat.le_of_ble_eq_true rfl) rfl (c_Mod_placesForAll hM) rfl (fun v I1 L1 hP => ?_)
  obtain ⟨hv, q1, rfl⟩ := hP
  obtain ⟨z, hz, hz2⟩ : ∃ z : Int, (z = 0 ∨ z = 1) ∧ v = some (vi z) := by
    rcases hv with ⟨rfl, -⟩ | ⟨rfl, -⟩
    · exact ⟨1, Or.inr rfl, rfl⟩
    · exact ⟨0, Or.inl rfl, rfl⟩
  subst hz2
  have hA1 : z = 1 → Lea (zG I 0 (fun i => 5 + i)) (zK I (fun i => 5 + i)) (I 149 5).toNat 0  (I1 153) := fun e => by
    rcases hv with ⟨-, hv⟩ | ⟨hv, -⟩
    · exact hv
    · injection hv with hv; have : z = 0 := by injection hv
      omega
  have hA0 : z = 0 → ¬ Exr (zG I 0 (fun i => 5 + i)) (zK I (fun i => 5 + i)) (I 149 5).toNat 0 (fun _ => 0) := fun e => by
    rcases hv with ⟨hv, -⟩ | ⟨-, hv⟩
    · injection hv with hv; have : z = 1 := by injection hv
      omega
    · exact hv
  refine Wk.if_eq (off := (12)) (t := 16) (q := 7) (by decide +kernel) (by decide) rfl (by first | omega | exact bi_rng _) (fun hc4 => ?_) (fun hc4 => ?_)
  · refine Wk.iconst (n := (-1)) (q := 17) (by decide +kernel) rfl ?_
    exact Wk.riP (by decide +kernel) rfl (⟨⟨_, rfl, by first | exact Or.inr ⟨hA0 hc4, rfl⟩ | exact Or.inl ⟨_, hA1 (by omega), rfl⟩⟩, q1, rfl⟩)
  · refine Wk.aload_n (k := 0) (q := 8) (by decide +kernel) rfl rfl rfl ?_
    refine Wk.getR (r := 153) (q := 11) f_Mod_22 (by decide +kernel) O_148 (by decide) rfl rfl rfl ?_
    refine Wk.iload_n (k := 1) (q := 12) (by decide +kernel) rfl rfl rfl ?_
    refine Wk.iaload (q := 13) (by decide +kernel) A_153 (by first | omega | exact bi_rng _) (by first | omega | exact bi_rng _) rfl ?_
    refine Wk.goto (off := (4)) (q := 17) (by decide +kernel) (by decide) ?_
    exact Wk.riP (by decide +kernel) rfl (⟨⟨_, rfl, by first | exact Or.inr ⟨hA0 hc4, rfl⟩ | exact Or.inl ⟨_, hA1 (by omega), rfl⟩⟩, q1, rfl⟩)
theorem ZFound.zf {I I2 : IM} {k set : Int} {R : Int → Int} (h : ZFound I k I2 set R) : ZF I k set R (I2 153) := ⟨h.1, h.2.1, h.2.2.1, h.2.2.2.1, fun set2 q0 q1 q2 => by
  obtain ⟨n, rfl⟩ := Int.eq_ofNat_of_zero_le q0
  exact h.2.2.2.2.2 n (Nat.zero_le n) (Int.ofNat_lt.mp q1) q2⟩
theorem c_Mod_movedBy {k : Int} (h0 : 0 ≤ k) (h1 : k < I 149 5) (hM : MW I) : Wk xs x_Mod_movedBy (d + 10) 0 0 0 [some (vr 148), some (vi k)] [] X2 I L (p2 fun v I' L' => (∃ z, v = some (vi z) ∧ ((∃ set R c, ZF I k set R c ∧ z = set) ∨ (ZNone I k ∧ z = -1))) ∧ Kp I' I ∧ L' = L) := by
  obtain ⟨hI, hS, hQ⟩ := id hM
  obtain ⟨hW, hH, hT, hF, hA, hK, hD⟩ := id hI
  have h49 := WH49 (W := I 149 0) (H := I 149 1) (by omega) (by omega)
  refine Wk.aload_n (k := 0) (q := 1) (by decide +kernel) rfl rfl rfl ?_
  refine Wk.iload_n (k := 1) (q := 2) (by decide +kernel) rfl rfl rfl ?_
  refine Wk.cV (q := 5) l_Mod_167 m_Mod_layMoves (by decide +kernel) (fun _ h => h) O_148 rfl (Nat.le_of_ble_eq_true rfl) (Nat.le_of_ble_eq_true rfl) rfl (c_Mod_layMoves h0 h1 hM) rfl (fun v I1 L1 hP => ?_)
  obtain ⟨hv, q1, rfl⟩ := hP
  obtain ⟨y, hy, hz2⟩ : ∃ y : Int, ((∃ set R, y = nbit set 5 ∧ ZFound I k I1 set R) ∨ (y = -1 ∧ ZNone I k)) ∧ v = some (vi y) := by
    rcases hv with ⟨set, R, rfl, hv⟩ | ⟨rfl, hv⟩
    · exact ⟨_, Or.inl ⟨set, R, rfl, hv⟩, rfl⟩
    · exact ⟨_, Or.inr ⟨rfl, hv⟩, rfl⟩
  subst hz2
  have hyr : -1 ≤ y ∧ y ≤ 2 := by
    rcases hy with ⟨set, R, hy1, hw⟩ | ⟨hy1, -⟩
    · have := nbit_nn set
      have := hw.2.1
      omega
    · omega
  refine Wk.iconst (n := (-1)) (q := 6) (by decide +kernel) rfl ?_
  refine Wk.icmp_ne (off := (7)) (t := 13) (q := 9) (by decide +kernel) (by decide) rfl (by first | omega | exact bi_rng _) (by first | omega | exact bi_rng _) (fun hc6 => ?_) (fun hc6 => ?_)
  · obtain ⟨set, R, -, hzf⟩ := hy.resolve_right (fun w => by have := w.1; omega)
    refine Wk.aload_n (k := 0) (q := 14) (by decide +kernel) rfl rfl rfl ?_
    refine Wk.getI (z := 11) (q := 17) f_Mod_121 (by decide +kernel) O_148 (by decide) rfl rfl rfl ?_
    exact Wk.riP (by decide +kernel) rfl (⟨⟨_, rfl, by first | exact Or.inr ⟨hzn, rfl⟩ | exact Or.inl ⟨set, R, _, hzf.zf, hzf.2.2.2.2.1⟩⟩, q1, rfl⟩)
  · have hzn := (hy.resolve_left (fun ⟨set, R, w, _⟩ => by have := nbit_nn set; omega)).2
    refine Wk.iconst (n := (-1)) (q := 10) (by decide +kernel) rfl ?_
    refine Wk.goto (off := (7)) (q := 17) (by decide +kernel) (by decide) ?_
    exact Wk.riP (by decide +kernel) rfl (⟨⟨_, rfl, by first | exact Or.inr ⟨hzn, rfl⟩ | exact Or.inl ⟨set, R, _, hzf.zf, hzf.2.2.2.2.1⟩⟩, q1, rfl⟩)
theorem c_Mod_waits {k q : Int} (hk : -2147483648 ≤ k ∧ k ≤ 2147483647) (hq : -2147483648 ≤ q ∧ q ≤ 2147483647) (hM : MW I) : Wk xs x_Mod_waits (d + 11) 0 0 0 [some (vr 148), some (vi k), some (vi q)] [] X2 I L (p2 fun v I' L' => (∃ z, v = some (vi z) ∧ WaiS I k q z) ∧ Kp I' I ∧ L' = L) := by
  obtain ⟨hI, hS, hQ⟩ := id hM
  obtain ⟨hW, hH, hT, hF, hA, hK, hD⟩ := id hI
  have h49 := WH49 (W := I 149 0) (H := I 149 1) (by omega) (by omega)
  refine Wk.aload_n (k := 0) (q := 1) (by decide +kernel) rfl rfl rfl ?_
  refine Wk.iload_n (k := 1) (q := 2) (by decide +kernel) rfl rfl rfl ?_
  refine Wk.cVi (q := 5) l_Mod_170 m_Mod_isWaiting (by decide +kernel) (fun _ h => h) O_148 rfl (Nat.le_of_ble_eq_true rfl) (Nat.le_of_ble_eq_true rfl) rfl (c_Mod_isWaiting hk hI) rfl ?_
  refine Wk.ifB_ne (off := (6)) (t := 11) (q := 8) (by decide +kernel) (by decide) rfl (fun hc5 => ?_) (fun hc5 => ?_)
  · refine Wk.iload_n (k := 2) (q := 12) (by decide +kernel) rfl rfl rfl ?_
    rcases Classical.em (q < 0 ∨ 7 < q) with hsw | hsw
    · refine Wk.tabOut (dflt := 90) (lo := 0) (hi := 7) (offs := #[48, 48, 48, 60, 66, 72, 78, 84]) (len := 48) (t := 102) (by decide +kernel) (hq) hsw (by decide) ?_
      refine Wk.ldc (z := (-1000000002)) (q := 104) k_Mod_159 (by decide +kernel) (by decide +kernel) rfl ?_
      exact Wk.riP (by decide +kernel) rfl (⟨⟨_, rfl, Or.inr ⟨hc5, by unfold WaiQ; rw [if_neg (by omega), if_neg (by omega), if_neg (by omega), if_neg (by omega), if_neg (by omega), if_neg (by omega), if_neg (by omega), if_neg (by omega)]⟩⟩, Kp.refl _, rfl⟩)
    · have hsx : q = 0 ∨ q = 1 ∨ q = 2 ∨ q = 3 ∨ q = 4 ∨ q = 5 ∨ q = 6 ∨ q = 7 := by omega
      rcases hsx with rfl | rfl | rfl | rfl | rfl | rfl | rfl | rfl
      · refine Wk.tabIn (dflt := 90) (lo := 0) (hi := 7) (offs := #[48, 48, 48, 60, 66, 72, 78, 84]) (len := 48) (off := 48) (t := 60) (by decide +kernel) (by decide) (by decide) (by decide) (by decide) (by decide) ?_
        refine Wk.aload_n (k := 0) (q := 61) (by decide +kernel) rfl rfl rfl ?_
        refine Wk.getR (r := 149) (q := 64) f_Mod_7 (by decide +kernel) O_148 (by decide) rfl rfl rfl ?_
        refine Wk.iload_n (k := 1) (q := 65) (by decide +kernel) rfl rfl rfl ?_
        refine Wk.cSi (q := 68) l_Mod_100 m_Mod_waitAt (by decide +kernel) (fun _ h => h) (Nat.le_of_ble_eq_true rfl) (Nat.le_of_ble_eq_true rfl) rfl (c_Mod_waitAt) rfl ?_
        refine Wk.iload_n (k := 2) (q := 69) (by decide +kernel) rfl rfl rfl ?_
        refine Wk.iadd (q := 70) (by decide +kernel) rfl ?_
        refine Wk.iaload (q := 71) (by decide +kernel) A_149 (by first | omega | exact bi_rng _) (by first | omega | exact bi_rng _) rfl ?_
        exact Wk.riP (by decide +kernel) rfl (⟨⟨_, rfl, Or.inr ⟨hc5, by first | (unfold WaiQ; rw [if_pos rfl] <;> exact (by congr 1; omega)) | (unfold WaiQ; rw [if_neg (by decide), if_pos rfl] <;> exact (by congr 1; omega)) | (unfold WaiQ; rw [if_neg (by decide), if_neg (by decide), if_pos rfl] <;> exact (by congr 1; omega))⟩⟩, Kp.refl _, rfl⟩)
      · refine Wk.tabIn (dflt := 90) (lo := 0) (hi := 7) (offs := #[48, 48, 48, 60, 66, 72, 78, 84]) (len := 48) (off := 48) (t := 60) (by decide +kernel) (by decide) (by decide) (by decide) (by decide) (by decide) ?_
        refine Wk.aload_n (k := 0) (q := 61) (by decide +kernel) rfl rfl rfl ?_
        refine Wk.getR (r := 149) (q := 64) f_Mod_7 (by decide +kernel) O_148 (by decide) rfl rfl rfl ?_
        refine Wk.iload_n (k := 1) (q := 65) (by decide +kernel) rfl rfl rfl ?_
        refine Wk.cSi (q := 68) l_Mod_100 m_Mod_waitAt (by decide +kernel) (fun _ h => h) (Nat.le_of_ble_eq_true rfl) (Nat.le_of_ble_eq_true rfl) rfl (c_Mod_waitAt) rfl ?_
        refine Wk.iload_n (k := 2) (q := 69) (by decide +kernel) rfl rfl rfl ?_
        refine Wk.iadd (q := 70) (by decide +kernel) rfl ?_
        refine Wk.iaload (q := 71) (by decide +kernel) A_149 (by first | omega | exact bi_rng _) (by first | omega | exact bi_rng _) rfl ?_
        exact Wk.riP (by decide +kernel) rfl (⟨⟨_, rfl, Or.inr ⟨hc5, by first | (unfold WaiQ; rw [if_pos rfl] <;> exact (by congr 1; omega)) | (unfold WaiQ; rw [if_neg (by decide), if_pos rfl] <;> exact (by congr 1; omega)) | (unfold WaiQ; rw [if_neg (by decide), if_neg (by decide), if_pos rfl] <;> exact (by congr 1; omega))⟩⟩, Kp.refl _, rfl⟩)
      · refine Wk.tabIn (dflt := 90) (lo := 0) (hi := 7) (offs := #[48, 48, 48, 60, 66, 72, 78, 84]) (len := 48) (off := 48) (t := 60) (by decide +kernel) (by decide) (by decide) (by decide) (by decide) (by decide) ?_
        refine Wk.aload_n (k := 0) (q := 61) (by decide +kernel) rfl rfl rfl ?_
        refine Wk.getR (r := 149) (q := 64) f_Mod_7 (by decide +kernel) O_148 (by decide) rfl rfl rfl ?_
        refine Wk.iload_n (k := 1) (q := 65) (by decide +kernel) rfl rfl rfl ?_
        refine Wk.cSi (q := 68) l_Mod_100 m_Mod_waitAt (by decide +kernel) (fun _ h => h) (Nat.le_of_ble_eq_true rfl) (Nat.le_of_ble_eq_true rfl) rfl (c_Mod_waitAt) rfl ?_
        refine Wk.iload_n (k := 2) (q := 69) (by decide +kernel) rfl rfl rfl ?_
        refine Wk.iadd (q := 70) (by decide +kernel) rfl ?_
        refine Wk.iaload (q := 71) (by decide +kernel) A_149 (by first | omega | exact bi_rng _) (by first | omega | exact bi_rng _) rfl ?_
        exact Wk.riP (by decide +kernel) rfl (⟨⟨_, rfl, Or.inr ⟨hc5, by first | (unfold WaiQ; rw [if_pos rfl] <;> exact (by congr 1; omega)) | (unfold WaiQ; rw [if_neg (by decide), if_pos rfl] <;> exact (by congr 1; omega)) | (unfold WaiQ; rw [if_neg (by decide), if_neg (by decide), if_pos rfl] <;> exact (by congr 1; omega))⟩⟩, Kp.refl _, rfl⟩)
      · refine Wk.tabIn (dflt := 90) (lo := 0) (hi := 7) (offs := #[48, 48, 48, 60, 66, 72, 78, 84]) (len := 48) (off := 60) (t := 72) (by decide +kernel) (by decide) (by decide) (by decide) (by decide) (by decide) ?_
        refine Wk.aload_n (k := 0) (q := 73) (by decide +kernel) rfl rfl rfl ?_
        refine Wk.iload_n (k := 1) (q := 74) (by decide +kernel) rfl rfl rfl ?_
        refine Wk.cVi (q := 77) l_Mod_173 m_Mod_places (by decide +kernel) (fun _ h => h) O_148 rfl (Nat.le_of_ble_eq_true rfl) (Nat.le_of_ble_eq_true rfl) rfl (c_Mod_places hc5.1 hc5.2 hM) rfl ?_
        exact Wk.riP (by decide +kernel) rfl (⟨⟨_, rfl, Or.inr ⟨hc5, by unfold WaiQ; rw [if_neg (by decide), if_neg (by decide), if_neg (by decide), if_pos rfl] <;> exact (rfl)⟩⟩, Kp.refl _, rfl⟩)
      · refine Wk.tabIn (dflt := 90) (lo := 0) (hi := 7) (offs := #[48, 48, 48, 60, 66, 72, 78, 84]) (len := 48) (off := 66) (t := 78) (by decide +kernel) (by decide) (by decide) (by decide) (by decide) (by decide) ?_
        refine Wk.aload_n (k := 0) (q := 79) (by decide +kernel) rfl rfl rfl ?_
        refine Wk.iload_n (k := 1) (q := 80) (by decide +kernel) rfl rfl rfl ?_
        refine Wk.cV (q := 83) l_Mod_176 m_Mod_firstPlace (by decide +kernel) (fun _ h => h) O_148 rfl (Nat.le_of_ble_eq_true rfl) (Nat.le_of_ble_eq_true rfl) rfl (c_Mod_firstPlace hc5.1 hc5.2 hM) rfl (fun v I1 L1 hP => ?_)
        obtain ⟨⟨z, rfl, hz⟩, rfl, rfl⟩ := hP
        exact Wk.riP (by decide +kernel) rfl (⟨⟨_, rfl, Or.inr ⟨hc5, by unfold WaiQ; rw [if_neg (by decide), if_neg (by decide), if_neg (by decide), if_neg (by decide), if_pos rfl] <;> exact (hz)⟩⟩, Kp.refl _, rfl⟩)
      · refine Wk.tabIn (dflt := 90) (lo := 0) (hi := 7) (offs := #[48, 48, 48, 60, 66, 72, 78, 84]) (len := 48) (off := 72) (t := 84) (by decide +kernel) (by decide) (by decide) (by decide) (by decide) (by decide) ?_
        refine Wk.aload_n (k := 0) (q := 85) (by decide +kernel) rfl rfl rfl ?_
        refine Wk.iload_n (k := 1) (q := 86) (by decide +kernel) rfl rfl rfl ?_
        refine Wk.cV (q := 89) l_Mod_179 m_Mod_inFirst (by decide +kernel) (fun _ h => h) O_148 rfl (Nat.le_of_ble_eq_true rfl) (Nat.le_of_ble_eq_true rfl) rfl (c_Mod_inFirst hc5.1 hc5.2 hM) rfl (fun v I1 L1 hP => ?_)
        obtain ⟨⟨z, rfl, hz⟩, q1, rfl⟩ := hP
        exact Wk.riP (by decide +kernel) rfl (⟨⟨_, rfl, Or.inr ⟨hc5, by unfold WaiQ; rw [if_neg (by decide), if_neg (by decide), if_neg (by decide), if_neg (by decide), if_neg (by decide), if_pos rfl] <;> exact (hz)⟩⟩, q1, rfl⟩)
      · refine Wk.tabIn (dflt := 90) (lo := 0) (hi := 7) (offs := #[48, 48, 48, 60, 66, 72, 78, 84]) (len := 48) (off := 78) (t := 90) (by decide +kernel) (by decide) (by decide) (by decide) (by decide) (by decide) ?_
        refine Wk.aload_n (k := 0) (q := 91) (by decide +kernel) rfl rfl rfl ?_
        refine Wk.iload_n (k := 1) (q := 92) (by decide +kernel) rfl rfl rfl ?_
        refine Wk.cV (q := 95) l_Mod_167 m_Mod_layMoves (by decide +kernel) (fun _ h => h) O_148 rfl (Nat.le_of_ble_eq_true rfl) (Nat.le_of_ble_eq_true rfl) rfl (c_Mod_layMoves hc5.1 hc5.2 hM) rfl (fun v I1 L1 hP => ?_)
        obtain ⟨hv, q1, rfl⟩ := hP
        obtain ⟨y, hy, hz2⟩ : ∃ y : Int, ((∃ set R, y = nbit set 5 ∧ ZFound I k I1 set R) ∨ (y = -1 ∧ ZNone I k)) ∧ v = some (vi y) := by
          rcases hv with ⟨set, R, rfl, hv⟩ | ⟨rfl, hv⟩
          · exact ⟨_, Or.inl ⟨set, R, rfl, hv⟩, rfl⟩
          · exact ⟨_, Or.inr ⟨rfl, hv⟩, rfl⟩
        subst hz2
        have hyr : -1 ≤ y ∧ y ≤ 2 := by
          rcases hy with ⟨set, R, hy1, hw⟩ | ⟨hy1, -⟩
          · have := nbit_nn set
            have := hw.2.1
            omega
          · omega
        exact Wk.riP (by decide +kernel) rfl (⟨⟨_, rfl, Or.inr ⟨hc5, by unfold WaiQ; rw [if_neg (by decide), if_neg (by decide), if_neg (by decide), if_neg (by decide), if_neg (by decide), if_neg (by decide), if_pos rfl] <;> exact (hy.imp (fun ⟨set, R, e, w⟩ => ⟨set, R, _, w.zf, e⟩) (fun w => ⟨w.2, w.1⟩))⟩⟩, q1, rfl⟩)
      · refine Wk.tabIn (dflt := 90) (lo := 0) (hi := 7) (offs := #[48, 48, 48, 60, 66, 72, 78, 84]) (len := 48) (off := 84) (t := 96) (by decide +kernel) (by decide) (by decide) (by decide) (by decide) (by decide) ?_
        refine Wk.aload_n (k := 0) (q := 97) (by decide +kernel) rfl rfl rfl ?_
        refine Wk.iload_n (k := 1) (q := 98) (by decide +kernel) rfl rfl rfl ?_
        refine Wk.cV (q := 101) l_Mod_182 m_Mod_movedBy (by decide +kernel) (fun _ h => h) O_148 rfl (Nat.le_of_ble_eq_true rfl) (Nat.le_of_ble_eq_true rfl) rfl (c_Mod_movedBy hc5.1 hc5.2 hM) rfl (fun v I1 L1 hP => ?_)
        obtain ⟨⟨z, rfl, hz⟩, q1, rfl⟩ := hP
        exact Wk.riP (by decide +kernel) rfl (⟨⟨_, rfl, Or.inr ⟨hc5, by unfold WaiQ; rw [if_neg (by decide), if_neg (by decide), if_neg (by decide), if_neg (by decide), if_neg (by decide), if_neg (by decide), if_neg (by decide), if_pos rfl] <;> exact (hz)⟩⟩, q1, rfl⟩)
  · refine Wk.ldc (z := (-1000000001)) (q := 10) k_Mod_160 (by decide +kernel) (by decide +kernel) rfl ?_
    exact Wk.riP (by decide +kernel) rfl (⟨⟨_, rfl, Or.inl ⟨hc5, rfl⟩⟩, Kp.refl _, rfl⟩)
theorem c_Sw_moves {k i : Int} (hk : -2147483648 ≤ k ∧ k ≤ 2147483647) (hi : -2147483648 ≤ i ∧ i ≤ 2147483647) (hI : Cur I) : Wk xs x_Sw_moves (d + 12) 0 0 0 [some (vr 0), some (vi k), some (vi i)] [] X2 I L (p2 fun v I' _ => (∃ z, v = some (vi z) ∧ MovS I k i z) ∧ FrS I' I) := by
  have hc : Cur I := hI
  have hC : CW I := hc.1
  obtain ⟨hW, hH, hT, hF, hA, hB, hD⟩ := id hC.1
  refine Wk.aload_n (k := 0) (q := 1) (by decide +kernel) rfl rfl rfl ?_
  refine Wk.getR (r := 1) (q := 4) f_Sw_12 (by decide +kernel) O_0 (by decide) rfl rfl rfl ?_
  refine Wk.iload_n (k := 1) (q := 5) (by decide +kernel) rfl rfl rfl ?_
  refine Wk.cVi (q := 8) l_Sw_162 m_Harb_hasWaiting (by decide +kernel) (fun _ h => h) O_1 rfl (Nat.le_of_ble_eq_true rfl) (Nat.le_of_ble_eq_true rfl) rfl (c_Harb_hasWaiting hk hB) rfl ?_
  refine Wk.ifB_ne (off := (6)) (t := 14) (q := 11) (by decide +kernel) (by decide) rfl (fun hc8 => ?_) (fun hc8 => ?_)
  · have hk8 := hc8
    refine Wk.iload_n (k := 2) (q := 15) (by decide +kernel) rfl rfl rfl ?_
    refine Wk.if_lt (off := (8)) (t := 23) (q := 18) (by decide +kernel) (by decide) rfl (by first | omega | exact bi_rng _) (fun hc15 => ?_) (fun hc15 => ?_)
    · refine Wk.ldc (z := (-1000000002)) (q := 25) k_Sw_102 (by decide +kernel) (by decide +kernel) rfl ?_
      exact Wk.riP (by decide +kernel) rfl (⟨⟨_, rfl, Or.inr ⟨(by rw [hc.n5]; exact hc8), Or.inl ⟨by omega, rfl⟩⟩⟩, fun _ _ _ _ => rfl⟩)
    · refine Wk.iload_n (k := 2) (q := 19) (by decide +kernel) rfl rfl rfl ?_
      refine Wk.iconst (n := 2) (q := 20) (by decide +kernel) rfl ?_
      refine Wk.icmp_le (off := (6)) (t := 26) (q := 23) (by decide +kernel) (by decide) rfl (by first | omega | exact bi_rng _) (by first | omega | exact bi_rng _) (fun hc20 => ?_) (fun hc20 => ?_)
      · refine Wk.aload_n (k := 0) (q := 27) (by decide +kernel) rfl rfl rfl ?_
        refine Wk.getR (r := 122) (q := 30) f_Sw_26 (by decide +kernel) O_0 (by decide) rfl rfl rfl ?_
        refine Wk.aload_n (k := 0) (q := 31) (by decide +kernel) rfl rfl rfl ?_
        refine Wk.getR (r := 1) (q := 34) f_Sw_12 (by decide +kernel) O_0 (by decide) rfl rfl rfl ?_
        refine Wk.iload_n (k := 1) (q := 35) (by decide +kernel) rfl rfl rfl ?_
        refine Wk.cV (q := 38) l_Sw_178 m_Sear_settlesByMoves (by decide +kernel) (fun _ h => h) O_122 rfl (Nat.le_of_ble_eq_true rfl) (Nat.le_of_ble_eq_true rfl) rfl (c_Sear_settlesByMoves hk8.1 hk8.2 hC) rfl (fun v I1 L1 hP => ?_)
        obtain ⟨hv, q1⟩ := hP
        have e1 := q1 1 (by decide) (by decide) (by decide)
        obtain ⟨z, hz, hz2⟩ : ∃ z : Int, (z = 0 ∨ z = 1) ∧ v = some (vi z) := by
          rcases hv with ⟨rfl, -⟩ | ⟨rfl, -⟩
          · exact ⟨1, Or.inr rfl, rfl⟩
          · exact ⟨0, Or.inl rfl, rfl⟩
        subst hz2
        have hM1 : z = 1 → ∃ set R, MvFound I k I1 set R := fun e => by
          rcases hv with ⟨-, hv⟩ | ⟨hv, -⟩
          · exact hv
          · injection hv with hv; have : z = 0 := by injection hv
            omega
        have hM0 : z = 0 → MvNone I k := fun e => by
          rcases hv with ⟨hv, -⟩ | ⟨-, hv⟩
          · injection hv with hv; have : z = 1 := by injection hv
            omega
          · exact hv
        refine Wk.if_eq (off := (17)) (t := 55) (q := 41) (by decide +kernel) (by decide) rfl (by first | omega | exact bi_rng _) (fun hc38 => ?_) (fun hc38 => ?_)
        · refine Wk.iconst (n := (-1)) (q := 56) (by decide +kernel) rfl ?_
          exact Wk.riP (by decide +kernel) rfl (⟨⟨_, rfl, Or.inr ⟨(by rw [hc.n5]; exact hc8), Or.inr ⟨by omega, by first | exact Or.inr ⟨eMn hc hk8.1 hk8.2 (hM0 hc38), rfl⟩ | exact Or.inl ⟨set, R, _, eMv hc hk8.1 hk8.2 hm, Or.inr ⟨by omega, rfl⟩⟩⟩⟩⟩, q1⟩)
        · obtain ⟨set, R, hm⟩ := hM1 (by omega)
          have hm3 := hm.2.2.2.2.1
          have hmb := hm.1
          have hp5 : 2 ^ (I 1 4).toNat ≤ 2 ^ 5 := Nat.pow_le_pow_right (by decide) (by omega)
          have hnb := nbit_nn set
          refine Wk.iload_n (k := 2) (q := 42) (by decide +kernel) rfl rfl rfl ?_
          refine Wk.aload_n (k := 0) (q := 43) (by decide +kernel) rfl rfl rfl ?_
          refine Wk.getR (r := 122) (q := 46) f_Sw_26 (by decide +kernel) O_0 (by decide) rfl rfl rfl ?_
          refine Wk.getI (z := 3) (q := 49) f_Sw_182 (by decide +kernel) O_122 (by decide) rfl rfl rfl ?_
          refine Wk.cSi (q := 52) l_Sw_185 m_Integer_bitCount (by decide +kernel) (fun _ h => h) (Nat.le_of_ble_eq_true rfl) (Nat.le_of_ble_eq_true rfl) rfl (c_Integer_bitCount (by rw [hm3]; exact hmb.1) (by rw [hm3]; omega)) rfl ?_
          rw [show ct (fun b => bt (I1 122 3) b = true) 5 = nbit set 5 by rw [hm3]; first | done | rfl]
          refine Wk.icmp_le (off := (5)) (t := 57) (q := 55) (by decide +kernel) (by decide) rfl (by first | omega | exact bi_rng _) (by first | omega | exact bi_rng _) (fun hc52 => ?_) (fun hc52 => ?_)
          · have hg := Lea_G _ 0 _ hm.2.2.2.1 i (by omega) (by omega)
            have hval : (if I1 124 i = -1 then -1 else I1 124 i / 8 * I1 1 0 + I1 124 i % 8) = fsp (I 1 0) (I1 124 i) := by
              rw [if_neg (by have := hg.1; omega), e1]
              rfl
            refine Wk.aload_n (k := 0) (q := 58) (by decide +kernel) rfl rfl rfl ?_
            refine Wk.aload_n (k := 0) (q := 59) (by decide +kernel) rfl rfl rfl ?_
            refine Wk.getR (r := 122) (q := 62) f_Sw_26 (by decide +kernel) O_0 (by decide) rfl rfl rfl ?_
            refine Wk.getR (r := 124) (q := 65) f_Sw_175 (by decide +kernel) O_122 (by decide) rfl rfl rfl ?_
            refine Wk.iload_n (k := 2) (q := 66) (by decide +kernel) rfl rfl rfl ?_
            refine Wk.iaload (q := 67) (by decide +kernel) A_124 (by first | omega | exact bi_rng _) (by first | omega | exact bi_rng _) rfl ?_
            refine Wk.cVi (q := 70) l_Sw_171 m_Sw_cellOfSpot (by decide +kernel) (fun _ h => h) O_0 rfl (Nat.le_of_ble_eq_true rfl) (Nat.le_of_ble_eq_true rfl) rfl (c_Sw_cellOfSpot (by have := hg.1; omega)) rfl ?_
            exact Wk.riP (by decide +kernel) rfl (⟨⟨_, rfl, Or.inr ⟨(by rw [hc.n5]; exact hc8), Or.inr ⟨by omega, Or.inl ⟨set, R, _, eMv hc hk8.1 hk8.2 hm, Or.inl ⟨by omega, hval⟩⟩⟩⟩⟩, q1⟩)
          · refine Wk.iconst (n := (-1)) (q := 56) (by decide +kernel) rfl ?_
            exact Wk.riP (by decide +kernel) rfl (⟨⟨_, rfl, Or.inr ⟨(by rw [hc.n5]; exact hc8), Or.inr ⟨by omega, by first | exact Or.inr ⟨eMn hc hk8.1 hk8.2 (hM0 hc38), rfl⟩ | exact Or.inl ⟨set, R, _, eMv hc hk8.1 hk8.2 hm, Or.inr ⟨by omega, rfl⟩⟩⟩⟩⟩, q1⟩)
      · refine Wk.ldc (z := (-1000000002)) (q := 25) k_Sw_102 (by decide +kernel) (by decide +kernel) rfl ?_
        exact Wk.riP (by decide +kernel) rfl (⟨⟨_, rfl, Or.inr ⟨(by rw [hc.n5]; exact hc8), Or.inl ⟨by omega, rfl⟩⟩⟩, fun _ _ _ _ => rfl⟩)
  · refine Wk.ldc (z := (-1000000001)) (q := 13) k_Sw_107 (by decide +kernel) (by decide +kernel) rfl ?_
    exact Wk.riP (by decide +kernel) rfl (⟨⟨_, rfl, Or.inl ⟨(by rw [hc.n5]; exact hc8), rfl⟩⟩, fun _ _ _ _ => rfl⟩)
theorem c_Mod_moves {k i : Int} (hk : -2147483648 ≤ k ∧ k ≤ 2147483647) (hi : -2147483648 ≤ i ∧ i ≤ 2147483647) (hM : MW I) : Wk xs x_Mod_moves (d + 11) 0 0 0 [some (vr 148), some (vi k), some (vi i)] [] X2 I L (p2 fun v I' L' => (∃ z, v = some (vi z) ∧ MovS I k i z) ∧ Kp I' I ∧ L' = L) := by
  obtain ⟨hI, hS, hQ⟩ := id hM
  obtain ⟨hW, hH, hT, hF, hA, hK, hD⟩ := id hI
  have h49 := WH49 (W := I 149 0) (H := I 149 1) (by omega) (by omega)
  refine Wk.aload_n (k := 0) (q := 1) (by decide +kernel) rfl rfl rfl ?_
  refine Wk.iload_n (k := 1) (q := 2) (by decide +kernel) rfl rfl rfl ?_
  refine Wk.cVi (q := 5) l_Mod_170 m_Mod_isWaiting (by decide +kernel) (fun _ h => h) O_148 rfl (Nat.le_of_ble_eq_true rfl) (Nat.le_of_ble_eq_true rfl) rfl (c_Mod_isWaiting hk hI) rfl ?_
  refine Wk.ifB_ne (off := (6)) (t := 11) (q := 8) (by decide +kernel) (by decide) rfl (fun hc5 => ?_) (fun hc5 => ?_)
  · refine Wk.iload_n (k := 2) (q := 12) (by decide +kernel) rfl rfl rfl ?_
    refine Wk.iconst (n := 0) (q := 13) (by decide +kernel) rfl ?_
    refine Wk.iconst (n := 2) (q := 14) (by decide +kernel) rfl ?_
    refine Wk.cSi (q := 17) l_Mod_36 m_Mod_in (by decide +kernel) (fun _ h => h) (Nat.le_of_ble_eq_true rfl) (Nat.le_of_ble_eq_true rfl) rfl (c_Mod_in hi (by omega) (by omega)) rfl ?_
    refine Wk.ifB_ne (off := (6)) (t := 23) (q := 20) (by decide +kernel) (by decide) rfl (fun hc17 => ?_) (fun hc17 => ?_)
    · refine Wk.iload_n (k := 2) (q := 24) (by decide +kernel) rfl rfl rfl ?_
      refine Wk.aload_n (k := 0) (q := 25) (by decide +kernel) rfl rfl rfl ?_
      refine Wk.iload_n (k := 1) (q := 26) (by decide +kernel) rfl rfl rfl ?_
      refine Wk.cV (q := 29) l_Mod_167 m_Mod_layMoves (by decide +kernel) (fun _ h => h) O_148 rfl (Nat.le_of_ble_eq_true rfl) (Nat.le_of_ble_eq_true rfl) rfl (c_Mod_layMoves hc5.1 hc5.2 hM) rfl (fun v I1 L1 hP => ?_)
      obtain ⟨hv, q1, rfl⟩ := hP
      obtain ⟨y, hy, hz2⟩ : ∃ y : Int, ((∃ set R, y = nbit set 5 ∧ ZFound I k I1 set R) ∨ (y = -1 ∧ ZNone I k)) ∧ v = some (vi y) := by
        rcases hv with ⟨set, R, rfl, hv⟩ | ⟨rfl, hv⟩
        · exact ⟨_, Or.inl ⟨set, R, rfl, hv⟩, rfl⟩
        · exact ⟨_, Or.inr ⟨rfl, hv⟩, rfl⟩
      subst hz2
      have hyr : -1 ≤ y ∧ y ≤ 2 := by
        rcases hy with ⟨set, R, hy1, hw⟩ | ⟨hy1, -⟩
        · have := nbit_nn set
          have := hw.2.1
          omega
        · omega
      refine Wk.icmp_gt (off := (12)) (t := 41) (q := 32) (by decide +kernel) (by decide) rfl (by first | omega | exact bi_rng _) (by first | omega | exact bi_rng _) (fun hc29 => ?_) (fun hc29 => ?_)
      · have hmv : (∃ set R c, ZF I k set R c ∧ ((i ≤ nbit set 5 ∧ (-1 : Int) = c i) ∨ (¬ i ≤ nbit set 5 ∧ (-1 : Int) = -1))) ∨ (ZNone I k ∧ (-1 : Int) = -1) := by
          rcases hy with ⟨set, R, e, w⟩ | ⟨e, w⟩
          · exact Or.inl ⟨set, R, _, w.zf, Or.inr ⟨by omega, rfl⟩⟩
          · exact Or.inr ⟨w, rfl⟩
        refine Wk.iconst (n := (-1)) (q := 42) (by decide +kernel) rfl ?_
        exact Wk.riP (by decide +kernel) rfl (⟨⟨_, rfl, Or.inr ⟨hc5, Or.inr ⟨hc17, hmv⟩⟩⟩, q1, rfl⟩)
      · have hmv : (∃ set R c, ZF I k set R c ∧ ((i ≤ nbit set 5 ∧ I1 153 i = c i) ∨ (¬ i ≤ nbit set 5 ∧ I1 153 i = -1))) ∨ (ZNone I k ∧ I1 153 i = -1) := by
          rcases hy with ⟨set, R, e, w⟩ | ⟨e, w⟩
          · exact Or.inl ⟨set, R, _, w.zf, Or.inl ⟨by omega, rfl⟩⟩
          · omega
        refine Wk.aload_n (k := 0) (q := 33) (by decide +kernel) rfl rfl rfl ?_
        refine Wk.getR (r := 153) (q := 36) f_Mod_22 (by decide +kernel) O_148 (by decide) rfl rfl rfl ?_
        refine Wk.iload_n (k := 2) (q := 37) (by decide +kernel) rfl rfl rfl ?_
        refine Wk.iaload (q := 38) (by decide +kernel) A_153 (by first | omega | exact bi_rng _) (by first | omega | exact bi_rng _) rfl ?_
        refine Wk.goto (off := (4)) (q := 42) (by decide +kernel) (by decide) ?_
        exact Wk.riP (by decide +kernel) rfl (⟨⟨_, rfl, Or.inr ⟨hc5, Or.inr ⟨hc17, hmv⟩⟩⟩, q1, rfl⟩)
    · refine Wk.ldc (z := (-1000000002)) (q := 22) k_Mod_159 (by decide +kernel) (by decide +kernel) rfl ?_
      exact Wk.riP (by decide +kernel) rfl (⟨⟨_, rfl, Or.inr ⟨hc5, Or.inl ⟨hc17, rfl⟩⟩⟩, Kp.refl _, rfl⟩)
  · refine Wk.ldc (z := (-1000000001)) (q := 10) k_Mod_160 (by decide +kernel) (by decide +kernel) rfl ?_
    exact Wk.riP (by decide +kernel) rfl (⟨⟨_, rfl, Or.inl ⟨hc5, rfl⟩⟩, Kp.refl _, rfl⟩)
end QWT
theorem WaiQ_det {I : IM} {k q z u : Int} (k0 : 0 ≤ k) (k1 : k < I 149 5) (h : WaiQ I k q z) (g : WaiQ I k q u) : z = u := by
  unfold WaiQ at h g
  by_cases q0 : q = 0
  · rw [if_pos q0] at h g
    rw [h, g]
  by_cases q1 : q = 1
  · rw [if_neg q0, if_pos q1] at h g
    rw [h, g]
  by_cases q2 : q = 2
  · rw [if_neg q0, if_neg q1, if_pos q2] at h g
    rw [h, g]
  by_cases q3 : q = 3
  · rw [if_neg q0, if_neg q1, if_neg q2, if_pos q3] at h g
    rw [h, g]
  by_cases q4 : q = 4
  · rw [if_neg q0, if_neg q1, if_neg q2, if_neg q3, if_pos q4] at h g
    exact h.uniq g
  by_cases q5 : q = 5
  · rw [if_neg q0, if_neg q1, if_neg q2, if_neg q3, if_neg q4, if_pos q5] at h g
    rcases h with ⟨c, h1, h2⟩ | ⟨h1, h2⟩ <;> rcases g with ⟨e, g1, g2⟩ | ⟨g1, g2⟩
    · rw [h2, g2]
      exact Lea_uniq _ 0 c e (by omega) (fun j j0 j1 => by omega) h1 g1 k k0 (by omega)
    · exact absurd ((Exr_pre (by omega) (fun j j0 j1 => by omega)).mp (Lea_ex _ 0 c (by omega) h1)) g1
    · exact absurd ((Exr_pre (by omega) (fun j j0 j1 => by omega)).mp (Lea_ex _ 0 e (by omega) g1)) h1
    · rw [h2, g2]
  by_cases q6 : q = 6
  · rw [if_neg q0, if_neg q1, if_neg q2, if_neg q3, if_neg q4, if_neg q5, if_pos q6] at h g
    rcases h with ⟨s, R, c, h1, h2⟩ | ⟨h1, h2⟩ <;> rcases g with ⟨s2, R2, c2, g1, g2⟩ | ⟨g1, g2⟩
    · rw [h2, g2, h1.set_uniq g1]
    · exact (h1.none g1).elim
    · exact (g1.none h1).elim
    · rw [h2, g2]
  by_cases q7 : q = 7
  · rw [if_neg q0, if_neg q1, if_neg q2, if_neg q3, if_neg q4, if_neg q5, if_neg q6, if_pos q7] at h g
    rcases h with ⟨s, R, c, h1, h2⟩ | ⟨h1, h2⟩ <;> rcases g with ⟨s2, R2, c2, g1, g2⟩ | ⟨g1, g2⟩
    · rw [h2, g2, h1.set_uniq g1]
    · exact (h1.none g1).elim
    · exact (g1.none h1).elim
    · rw [h2, g2]
  rw [if_neg q0, if_neg q1, if_neg q2, if_neg q3, if_neg q4, if_neg q5, if_neg q6, if_neg q7] at h g
  rw [h, g]
theorem WaiS_det {I : IM} {k q z u : Int} (h : WaiS I k q z) (g : WaiS I k q u) : z = u := by
  rcases h with ⟨h1, h2⟩ | ⟨h1, h2⟩ <;> rcases g with ⟨g1, g2⟩ | ⟨g1, g2⟩
  · rw [h2, g2]
  · exact absurd g1 h1
  · exact absurd h1 g1
  · exact WaiQ_det h1.1 h1.2 h2 g2
theorem MovS_det {I : IM} {k i z u : Int} (h : MovS I k i z) (g : MovS I k i u) : z = u := by
  rcases h with ⟨h1, h2⟩ | ⟨h1, ⟨h2, h3⟩ | ⟨h2, h3⟩⟩ <;> rcases g with ⟨g1, g2⟩ | ⟨g1, ⟨g2, g3⟩ | ⟨g2, g3⟩⟩
  · rw [h2, g2]
  · exact absurd g1 h1
  · exact absurd g1 h1
  · exact absurd h1 g1
  · rw [h3, g3]
  · exact absurd g2 h2
  · exact absurd h1 g1
  · exact absurd h2 g2
  · rcases h3 with ⟨s, R, c, h4, h5⟩ | ⟨h4, h5⟩ <;> rcases g3 with ⟨s2, R2, c2, g4, g5⟩ | ⟨g4, g5⟩
    · have e := h4.set_uniq g4
      subst e
      rcases h5 with ⟨a1, a2⟩ | ⟨a1, a2⟩ <;> rcases g5 with ⟨b1, b2⟩ | ⟨b1, b2⟩
      · rw [a2, b2]; exact (h4.uniq g4).2 i h2.1 a1
      · exact absurd a1 b1
      · exact absurd b1 a1
      · rw [a2, b2]
    · exact (h4.none g4).elim
    · exact (g4.none h4).elim
    · rw [h5, g5]
theorem ZF_eq {I' I : IM} (h : I' 149 = I 149) {k set : Int} {R c : Int → Int} : ZF I' k set R c ↔ ZF I k set R c := by
  unfold ZF
  rw [zG_eq h, zK_eq h, h]
  simp only [ZE_eq h]
theorem ZNone_eq {I' I : IM} (h : I' 149 = I 149) {k : Int} : ZNone I' k ↔ ZNone I k := by
  unfold ZNone
  rw [h]
  simp only [ZE_eq h]
theorem WaiS_eq {I' I : IM} (h : I' 149 = I 149) {k q z : Int} : WaiS I' k q z ↔ WaiS I k q z := by
  unfold WaiS WaiQ
  simp only [ZF_eq h, ZNone_eq h, mFr_eq h, zG_eq h, zK_eq h]
  rw [h]
theorem MovS_eq {I' I : IM} (h : I' 149 = I 149) {k i z : Int} : MovS I' k i z ↔ MovS I k i z := by
  unfold MovS
  simp only [ZF_eq h, ZNone_eq h]
  rw [h]
