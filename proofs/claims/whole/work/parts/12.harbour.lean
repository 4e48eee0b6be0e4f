/-! THE HARBOUR of the class: its methods -/
theorem bi_rng (p : Prop) : -2147483648 ≤ bi p ∧ bi p ≤ 2147483647 := by have := bi_range p; omega
theorem Wk.ifB_eq {xs : RO} {cx : CX} {d bc bs pc q : Nat} {lv : List (Option AV)} {st : List AV} {X : LY} {I : IM} {L : LM} {post : Option AV → LY → IM → LM → Prop} {p : Prop} {off : Int} {t : Nat} (hd : decode (cxC cx) pc = .ok (.ifCond .eq off, 3)) (ht : (pc : Int) + off = (t : Int)) (hq : pc + 3 = q) (kt : ¬ p → Wk xs cx d bc bs t lv st X I L post) (kf : p → Wk xs cx d bc bs q lv st X I L post) : Wk xs cx d bc bs pc lv (vi (bi p) :: st) X I L post :=
  Wk.if_eq hd ht hq (bi_rng p) (fun h => kt (bi_eq0.mp h)) (fun h => kf (Classical.not_not.mp (fun z => h (bi_f z))))
theorem Wk.ifB_ne {xs : RO} {cx : CX} {d bc bs pc q : Nat} {lv : List (Option AV)} {st : List AV} {X : LY} {I : IM} {L : LM} {post : Option AV → LY → IM → LM → Prop} {p : Prop} {off : Int} {t : Nat} (hd : decode (cxC cx) pc = .ok (.ifCond .ne off, 3)) (ht : (pc : Int) + off = (t : Int)) (hq : pc + 3 = q) (kt : p → Wk xs cx d bc bs t lv st X I L post) (kf : ¬ p → Wk xs cx d bc bs q lv st X I L post) : Wk xs cx d bc bs pc lv (vi (bi p) :: st) X I L post :=
  Wk.if_ne hd ht hq (bi_rng p) (fun h => kt (Classical.not_not.mp (fun z => h (bi_f z)))) (fun h => kf (bi_eq0.mp h))
/-- a cell's number lies in the row -/
theorem cellB {x y W H : Int} (hx : 0 ≤ x ∧ x < W) (hy : 0 ≤ y ∧ y < H) : 0 ≤ y * W + x ∧ y * W + x < W * H ∧ 0 ≤ y * W := by
  have h1 : 0 ≤ y * W := Int.mul_nonneg hy.1 (by omega)
  have h2 : (y + 1) * W ≤ H * W := Int.mul_le_mul_of_nonneg_right (by omega) (by omega)
  have h3 : (y + 1) * W = y * W + W := by rw [Int.add_mul, Int.one_mul]
  have h4 : H * W = W * H := Int.mul_comm H W
  omega
theorem WH49 {W H : Int} (hW : 0 ≤ W ∧ W ≤ 7) (hH : 0 ≤ H ∧ H ≤ 7) : 0 ≤ W * H ∧ W * H ≤ 49 := by
  have h1 : 0 ≤ W * H := Int.mul_nonneg hW.1 hH.1
  have h2 : W * H ≤ 7 * H := Int.mul_le_mul_of_nonneg_right hW.2 hH.1
  omega
/-- scalars and depths as they should be -/
def CI0 (I : IM) : Prop := (2 ≤ I 1 0 ∧ I 1 0 ≤ 7) ∧ (2 ≤ I 1 1 ∧ I 1 1 ≤ 7) ∧ (-3 ≤ I 1 2 ∧ I 1 2 ≤ 3) ∧ (1 ≤ I 1 3 ∧ I 1 3 ≤ 255) ∧ (0 ≤ I 1 4 ∧ I 1 4 ≤ 5) ∧ (0 ≤ I 1 5 ∧ I 1 5 ≤ 3) ∧ ∀ k, 0 ≤ k → k < 49 → 0 ≤ I 2 k ∧ I 2 k ≤ 9
/-- a slot that holds a ship -/
def Slot1 (I : IM) (s : Int) : Prop := (0 ≤ s ∧ s < I 1 4) ∨ (5 ≤ s ∧ s < 5 + I 1 5)
def CI1 (I : IM) : Prop := ∀ s, Slot1 I s → (1 ≤ I 3 s ∧ I 3 s ≤ 9) ∧ (0 ≤ I 4 s ∧ I 4 s ≤ 2) ∧ (1 ≤ I 5 s ∧ I 5 s ≤ 2)
def CI2 (I : IM) : Prop := ∀ a, 0 ≤ a → a < I 1 4 → (0 ≤ I 6 a ∧ I 6 a < I 1 0) ∧ (0 ≤ I 7 a ∧ I 7 a < I 1 1)
def CW (I : IM) : Prop := CI0 I ∧ CI1 I ∧ CI2 I
/-- WATER -/
def inE (W H x y : Int) : Prop := 0 ≤ x ∧ x < W ∧ 0 ≤ y ∧ y < H
noncomputable def wat (W H t : Int) (dep : Int → Int) (x y : Int) : Int := @ite Int (inE W H x y) (Classical.propDecidable _) (max 0 (dep (y * W + x) + t)) 0
theorem wat_in {W H t : Int} {dep : Int → Int} {x y : Int} (h : inE W H x y) : wat W H t dep x y = max 0 (dep (y * W + x) + t) := by unfold wat; rw [if_pos h]
theorem wat_out {W H t : Int} {dep : Int → Int} {x y : Int} (h : ¬ inE W H x y) : wat W H t dep x y = 0 := by unfold wat; rw [if_neg h]
noncomputable abbrev cwat (I : IM) (x y : Int) : Int := wat (I 1 0) (I 1 1) (I 1 2) (I 2) x y
theorem cwat_range {I : IM} (h : CI0 I) (x y : Int) : 0 ≤ cwat I x y ∧ cwat I x y ≤ 12 := by
  by_cases hi : inE (I 1 0) (I 1 1) x y
  · obtain ⟨h1, h2, h3, -, -, -, h7⟩ := h
    have hb := cellB (W := I 1 0) (H := I 1 1) (x := x) (y := y) ⟨hi.1, hi.2.1⟩ ⟨hi.2.2.1, hi.2.2.2⟩
    have h49 := WH49 (W := I 1 0) (H := I 1 1) (by omega) (by omega)
    have := h7 (y * I 1 0 + x) (by omega) (by omega)
    rw [cwat, wat_in hi]
    omega
  · rw [cwat, wat_out hi]
    omega
theorem cmp0 {x : Int64} : (if x = 0 then (0 : Int) else if 0 < x then 1 else -1) = 0 ↔ x = 0 := by
  by_cases h : x = 0
  · simp [h]
  · rw [if_neg h]
    constructor
    · intro z
      split at z <;> omega
    · intro z
      exact absurd z h
section HB
variable {xs : RO} {d : Nat} {I : IM} {L : LM}

theorem c_Sw_holds {w : Int64} {s : Int} (h0 : 0 ≤ s) (h1 : s < 64) : Wk xs x_Sw_holds d 0 0 0 [some (vl w), none, some (vi s)] [] X2 I L (pI (bi (bl w s = true)) I L) := by
  refine Wk.lload_n (k := 0) (q := 1) (by decide +kernel) rfl rfl rfl ?_
  refine Wk.iload_n (k := 2) (q := 2) (by decide +kernel) rfl rfl rfl ?_
  refine Wk.lushr (q := 3) (by decide +kernel) rfl ?_
  refine Wk.lconst (n := 1) (v := 1) (q := 4) (by decide +kernel) rfl rfl ?_
  refine Wk.land (q := 5) (by decide +kernel) rfl ?_
  refine Wk.lconst (n := 0) (v := 0) (q := 6) (by decide +kernel) rfl rfl ?_
  refine Wk.lcmp (q := 7) (by decide +kernel) rfl ?_
  refine Wk.if_eq (off := (7)) (t := 14) (q := 10) (by decide +kernel) (by decide) rfl (by first | omega | (split <;> (try split) <;> omega)) (fun hc7 => ?_) (fun hc7 => ?_)
  · refine Wk.iconst (n := 0) (q := 15) (by decide +kernel) rfl ?_
    exact Wk.rZ (by decide +kernel) rfl (by first | omega | decide | exact bi_01 _) (by rw [cmp0, bl_holds w h0 h1] at hc7; first | (rw [bi_f (by rw [hc7]; decide)]; done) | (rw [bi_t (by simpa using hc7)]; done))
  · refine Wk.iconst (n := 1) (q := 11) (by decide +kernel) rfl ?_
    refine Wk.goto (off := (4)) (q := 15) (by decide +kernel) (by decide) ?_
    exact Wk.rZ (by decide +kernel) rfl (by first | omega | decide | exact bi_01 _) (by rw [cmp0, bl_holds w h0 h1] at hc7; first | (rw [bi_f (by rw [hc7]; decide)]; done) | (rw [bi_t (by simpa using hc7)]; done))
theorem c_Sw_firstOf {w : Int64} : Wk xs x_Sw_firstOf (d + 1) 0 0 0 [some (vl w), none, none] [] X2 I L (p2 fun v I' L' => (∃ s : Int, v = some (vi s) ∧ ((s = -1 ∧ ∀ i, 0 ≤ i → i < 64 → bl w i = false) ∨ (0 ≤ s ∧ s < 64 ∧ bl w s = true ∧ ∀ i, 0 ≤ i → i < s → bl w i = false))) ∧ I' = I ∧ L' = L) := by
  refine Wk.iconst (n := 0) (q := 1) (by decide +kernel) rfl ?_
  refine Wk.istore_n (k := 2) (q := 2) (by decide +kernel) rfl (by decide) rfl (fun _ h => h) rfl ?_
  refine loopS (σ := Unit) (fun k _ => Wk xs x_Sw_firstOf (d + 1) 0 0 2 [some (vl w), none, some (vi k)] [] X2 I L _) (fun k _ => ∀ i, 0 ≤ i → i < k → bl w i = false) 64 0 () (by omega) (fun i h0 h1 => by omega) ?_ ?_
  · intro _ hJ
    refine Wk.iload_n (k := 2) (q := 3) (by decide +kernel) rfl rfl rfl ?_
    refine Wk.bipush (n := 64) (q := 5) (by decide +kernel) (by decide +kernel) rfl ?_
    refine Wk.icmp_ge (off := (19)) (t := 24) (q := 8) (by decide +kernel) (by decide) rfl (by first | omega | exact bi_rng _) (by first | omega | exact bi_rng _) (fun hc5 => ?_) (fun hc5 => ?_)
    · refine Wk.iconst (n := (-1)) (q := 25) (by decide +kernel) rfl ?_
      exact Wk.riP (by decide +kernel) rfl (⟨⟨-1, rfl, Or.inl ⟨rfl, hJ⟩⟩, rfl, rfl⟩)
    · omega
  · intro k _ h0 h1 hJ ih
    refine Wk.iload_n (k := 2) (q := 3) (by decide +kernel) rfl rfl rfl ?_
    refine Wk.bipush (n := 64) (q := 5) (by decide +kernel) (by decide +kernel) rfl ?_
    refine Wk.icmp_ge (off := (19)) (t := 24) (q := 8) (by decide +kernel) (by decide) rfl (by first | omega | exact bi_rng _) (by first | omega | exact bi_rng _) (fun hc5 => ?_) (fun hc5 => ?_)
    · omega
    · refine Wk.lload_n (k := 0) (q := 9) (by decide +kernel) rfl rfl rfl ?_
      refine Wk.iload_n (k := 2) (q := 10) (by decide +kernel) rfl rfl rfl ?_
      refine Wk.cSi (q := 13) l_Sw_213 m_Sw_holds (by decide +kernel) (fun _ h => h) (Nat.le_of_ble_eq_true rfl) (Nat.le_of_ble_eq_true rfl) rfl (c_Sw_holds (by omega) (by omega)) rfl ?_
      refine Wk.ifB_eq (off := (5)) (t := 18) (q := 16) (by decide +kernel) (by decide) rfl (fun hc13 => ?_) (fun hc13 => ?_)
      · refine Wk.iinc (i := 2) (n := 1) (q := 21) (by decide +kernel) rfl (by decide) rfl (fun _ h => h) rfl ?_
        refine Wk.goto (off := (-19)) (q := 2) (by decide +kernel) (by decide) ?_
        exact ih () (fun i g0 g1 => by by_cases hi : i = k; subst hi; simpa using hc13; exact hJ i g0 (by omega))
      · refine Wk.iload_n (k := 2) (q := 17) (by decide +kernel) rfl rfl rfl ?_
        exact Wk.riP (by decide +kernel) rfl (⟨⟨k, rfl, Or.inr ⟨h0, h1, hc13, hJ⟩⟩, rfl, rfl⟩)
theorem c_Sw_cellOfSpot {s : Int} (h : s = -1 ∨ (0 ≤ s ∧ s < 64)) : Wk xs x_Sw_cellOfSpot (d + 1) 0 0 0 [some (vr 0), some (vi s)] [] X2 I L (pI (if s = -1 then -1 else (s / 8) * I 1 0 + s % 8) I L) := by
  refine Wk.iload_n (k := 1) (q := 1) (by decide +kernel) rfl rfl rfl ?_
  refine Wk.iconst (n := (-1)) (q := 2) (by decide +kernel) rfl ?_
  refine Wk.icmp_ne (off := (7)) (t := 9) (q := 5) (by decide +kernel) (by decide) rfl (by first | omega | exact bi_rng _) (by first | omega | exact bi_rng _) (fun hc2 => ?_) (fun hc2 => ?_)
  · refine Wk.aload_n (k := 0) (q := 10) (by decide +kernel) rfl rfl rfl ?_
    refine Wk.getR (r := 1) (q := 13) f_Sw_12 (by decide +kernel) O_0 (by decide) rfl rfl rfl ?_
    refine Wk.iload_n (k := 1) (q := 14) (by decide +kernel) rfl rfl rfl ?_
    refine Wk.cSi (q := 17) l_Sw_267 m_Sw_columnOf (by decide +kernel) (fun _ h => h) (Nat.le_of_ble_eq_true rfl) (Nat.le_of_ble_eq_true rfl) rfl (c_Sw_columnOf (by omega) (by omega)) rfl ?_
    refine Wk.iload_n (k := 1) (q := 18) (by decide +kernel) rfl rfl rfl ?_
    refine Wk.cSi (q := 21) l_Sw_270 m_Sw_lineOf (by decide +kernel) (fun _ h => h) (Nat.le_of_ble_eq_true rfl) (Nat.le_of_ble_eq_true rfl) rfl (c_Sw_lineOf (by omega) (by omega)) rfl ?_
    refine Wk.cVi (q := 24) l_Sw_144 m_Harb_cellAt (by decide +kernel) (fun _ h => h) O_1 rfl (Nat.le_of_ble_eq_true rfl) (Nat.le_of_ble_eq_true rfl) rfl (c_Harb_cellAt) rfl ?_
    exact Wk.rI (by decide +kernel) rfl (by first | rw [if_pos (by omega)] | rw [if_neg (by omega)])
  · refine Wk.iconst (n := (-1)) (q := 6) (by decide +kernel) rfl ?_
    refine Wk.goto (off := (18)) (q := 24) (by decide +kernel) (by decide) ?_
    exact Wk.rI (by decide +kernel) rfl (by first | rw [if_pos (by omega)] | rw [if_neg (by omega)])
theorem c_Harb_hasSlot {s : Int} (hs : 0 ≤ s ∧ s ≤ 7) (hA : 0 ≤ I 1 4 ∧ I 1 4 ≤ 5) (hB : 0 ≤ I 1 5 ∧ I 1 5 ≤ 3) : Wk xs x_Harb_hasSlot (d + 1) 0 0 0 [some (vr 1), some (vi s)] [] X2 I L (pI (bi (Slot1 I s)) I L) := by
  refine Wk.aload_n (k := 0) (q := 1) (by decide +kernel) rfl rfl rfl ?_
  refine Wk.iload_n (k := 1) (q := 2) (by decide +kernel) rfl rfl rfl ?_
  refine Wk.cVi (q := 5) l_Harb_59 m_Harb_hasAnchored (by decide +kernel) (fun _ h => h) O_1 rfl (Nat.le_of_ble_eq_true rfl) (Nat.le_of_ble_eq_true rfl) rfl (c_Harb_hasAnchored (by omega) hA) rfl ?_
  refine Wk.ifB_ne (off := (13)) (t := 18) (q := 8) (by decide +kernel) (by decide) rfl (fun hc5 => ?_) (fun hc5 => ?_)
  · refine Wk.iconst (n := 1) (q := 19) (by decide +kernel) rfl ?_
    refine Wk.goto (off := (4)) (q := 23) (by decide +kernel) (by decide) ?_
    exact Wk.rZ (by decide +kernel) rfl (by first | omega | decide | exact bi_01 _) (by first | rw [bi_t (by unfold Slot1; omega)] | rw [bi_f (by unfold Slot1; omega)])
  · refine Wk.aload_n (k := 0) (q := 9) (by decide +kernel) rfl rfl rfl ?_
    refine Wk.iload_n (k := 1) (q := 10) (by decide +kernel) rfl rfl rfl ?_
    refine Wk.iconst (n := 5) (q := 11) (by decide +kernel) rfl ?_
    refine Wk.isub (q := 12) (by decide +kernel) rfl ?_
    refine Wk.cVi (q := 15) l_Harb_63 m_Harb_hasWaiting (by decide +kernel) (fun _ h => h) O_1 rfl (Nat.le_of_ble_eq_true rfl) (Nat.le_of_ble_eq_true rfl) rfl (c_Harb_hasWaiting (by omega) hB) rfl ?_
    refine Wk.ifB_eq (off := (7)) (t := 22) (q := 18) (by decide +kernel) (by decide) rfl (fun hc15 => ?_) (fun hc15 => ?_)
    · refine Wk.iconst (n := 0) (q := 23) (by decide +kernel) rfl ?_
      exact Wk.rZ (by decide +kernel) rfl (by first | omega | decide | exact bi_01 _) (by first | rw [bi_t (by unfold Slot1; omega)] | rw [bi_f (by unfold Slot1; omega)])
    · refine Wk.iconst (n := 1) (q := 19) (by decide +kernel) rfl ?_
      refine Wk.goto (off := (4)) (q := 23) (by decide +kernel) (by decide) ?_
      exact Wk.rZ (by decide +kernel) rfl (by first | omega | decide | exact bi_01 _) (by first | rw [bi_t (by unfold Slot1; omega)] | rw [bi_f (by unfold Slot1; omega)])
theorem c_Harb_depthAt {x y : Int} (hi : inE (I 1 0) (I 1 1) x y) (hC : CI0 I) : Wk xs x_Harb_depthAt (d + 1) 0 0 0 [some (vr 1), some (vi x), some (vi y)] [] X2 I L (pI (I 2 (y * I 1 0 + x)) I L) := by
  obtain ⟨h1, h2, h3, -, -, -, h7⟩ := hC
  obtain ⟨i1, i2, i3, i4⟩ := hi
  have hb := cellB (W := I 1 0) (H := I 1 1) (x := x) (y := y) ⟨i1, i2⟩ ⟨i3, i4⟩
  have h49 := WH49 (W := I 1 0) (H := I 1 1) (by omega) (by omega)
  refine Wk.aload_n (k := 0) (q := 1) (by decide +kernel) rfl rfl rfl ?_
  refine Wk.iload_n (k := 1) (q := 2) (by decide +kernel) rfl rfl rfl ?_
  refine Wk.iload_n (k := 2) (q := 3) (by decide +kernel) rfl rfl rfl ?_
  refine Wk.cVi (q := 6) l_Harb_66 m_Harb_hasCell (by decide +kernel) (fun _ h => h) O_1 rfl (Nat.le_of_ble_eq_true rfl) (Nat.le_of_ble_eq_true rfl) rfl (c_Harb_hasCell (by omega) (by omega) (by omega) (by omega)) rfl ?_
  refine Wk.ifB_eq (off := (17)) (t := 23) (q := 9) (by decide +kernel) (by decide) rfl (fun hc6 => ?_) (fun hc6 => ?_)
  · refine Wk.iconst (n := 0) (q := 24) (by decide +kernel) rfl ?_
    exact Wk.rI (by decide +kernel) rfl (by first | rfl | exact absurd ⟨i1, i2, i3, i4⟩ hc6)
  · refine Wk.aload_n (k := 0) (q := 10) (by decide +kernel) rfl rfl rfl ?_
    refine Wk.getR (r := 2) (q := 13) f_Harb_9 (by decide +kernel) O_1 (by decide) rfl rfl rfl ?_
    refine Wk.aload_n (k := 0) (q := 14) (by decide +kernel) rfl rfl rfl ?_
    refine Wk.iload_n (k := 1) (q := 15) (by decide +kernel) rfl rfl rfl ?_
    refine Wk.iload_n (k := 2) (q := 16) (by decide +kernel) rfl rfl rfl ?_
    refine Wk.cVi (q := 19) l_Harb_70 m_Harb_cellAt (by decide +kernel) (fun _ h => h) O_1 rfl (Nat.le_of_ble_eq_true rfl) (Nat.le_of_ble_eq_true rfl) rfl (c_Harb_cellAt) rfl ?_
    refine Wk.iaload (q := 20) (by decide +kernel) A_2 (by first | omega | exact bi_rng _) (by first | omega | exact bi_rng _) rfl ?_
    refine Wk.goto (off := (4)) (q := 24) (by decide +kernel) (by decide) ?_
    exact Wk.rI (by decide +kernel) rfl (by first | rfl | exact absurd ⟨i1, i2, i3, i4⟩ hc6)
theorem c_Harb_water {x y : Int} (hx : -2147483648 ≤ x ∧ x ≤ 2147483647) (hy : -2147483648 ≤ y ∧ y ≤ 2147483647) (hC : CI0 I) : Wk xs x_Harb_water (d + 1) 0 0 0 [some (vr 1), some (vi x), some (vi y)] [] X2 I L (pI (cwat I x y) I L) := by
  obtain ⟨h1, h2, h3, -, -, -, h7⟩ := hC
  refine Wk.aload_n (k := 0) (q := 1) (by decide +kernel) rfl rfl rfl ?_
  refine Wk.iload_n (k := 1) (q := 2) (by decide +kernel) rfl rfl rfl ?_
  refine Wk.iload_n (k := 2) (q := 3) (by decide +kernel) rfl rfl rfl ?_
  refine Wk.cVi (q := 6) l_Harb_66 m_Harb_hasCell (by decide +kernel) (fun _ h => h) O_1 rfl (Nat.le_of_ble_eq_true rfl) (Nat.le_of_ble_eq_true rfl) rfl (c_Harb_hasCell (by omega) (by omega) (by omega) (by omega)) rfl ?_
  refine Wk.ifB_eq (off := (26)) (t := 32) (q := 9) (by decide +kernel) (by decide) rfl (fun hc6 => ?_) (fun hc6 => ?_)
  · have hout : ¬ inE (I 1 0) (I 1 1) x y := hc6
    refine Wk.iconst (n := 0) (q := 33) (by decide +kernel) rfl ?_
    exact Wk.rI (by decide +kernel) rfl (by first | (rw [cwat, wat_out hout]) | (rw [cwat, wat_in hc6]; split <;> omega))
  · have hb := cellB (W := I 1 0) (H := I 1 1) (x := x) (y := y) ⟨hc6.1, hc6.2.1⟩ ⟨hc6.2.2.1, hc6.2.2.2⟩
    have h49 := WH49 (W := I 1 0) (H := I 1 1) (by omega) (by omega)
    have hdp := h7 (y * I 1 0 + x) (by omega) (by omega)
    refine Wk.iconst (n := 0) (q := 10) (by decide +kernel) rfl ?_
    refine Wk.aload_n (k := 0) (q := 11) (by decide +kernel) rfl rfl rfl ?_
    refine Wk.getR (r := 2) (q := 14) f_Harb_9 (by decide +kernel) O_1 (by decide) rfl rfl rfl ?_
    refine Wk.aload_n (k := 0) (q := 15) (by decide +kernel) rfl rfl rfl ?_
    refine Wk.iload_n (k := 1) (q := 16) (by decide +kernel) rfl rfl rfl ?_
    refine Wk.iload_n (k := 2) (q := 17) (by decide +kernel) rfl rfl rfl ?_
    refine Wk.cVi (q := 20) l_Harb_70 m_Harb_cellAt (by decide +kernel) (fun _ h => h) O_1 rfl (Nat.le_of_ble_eq_true rfl) (Nat.le_of_ble_eq_true rfl) rfl (c_Harb_cellAt) rfl ?_
    refine Wk.iaload (q := 21) (by decide +kernel) A_2 (by first | omega | exact bi_rng _) (by first | omega | exact bi_rng _) rfl ?_
    refine Wk.aload_n (k := 0) (q := 22) (by decide +kernel) rfl rfl rfl ?_
    refine Wk.getI (z := 2) (q := 25) f_Harb_30 (by decide +kernel) O_1 (by decide) rfl rfl rfl ?_
    refine Wk.iadd (q := 26) (by decide +kernel) rfl ?_
    refine Wk.max (q := 29) l_Harb_74 (by decide +kernel) (by first | omega | exact bi_rng _) (by first | omega | exact bi_rng _) (Nat.le_of_ble_eq_true rfl) rfl ?_
    refine Wk.goto (off := (4)) (q := 33) (by decide +kernel) (by decide) ?_
    exact Wk.rI (by decide +kernel) rfl (by first | (rw [cwat, wat_out hout]) | (rw [cwat, wat_in hc6]; split <;> omega))
theorem c_Harb_changeDepth {n v : Int} (h0 : 0 ≤ n) (h1 : n < 49) : Wk xs x_Harb_changeDepth d 0 0 0 [some (vr 1), some (vi n), some (vi v)] [] X2 I L (pV (iup I 2 n v) L) := by
  refine Wk.iload_n (k := 1) (q := 1) (by decide +kernel) rfl rfl rfl ?_
  refine Wk.if_lt (off := (19)) (t := 20) (q := 4) (by decide +kernel) (by decide) rfl (by first | omega | exact bi_rng _) (fun hc1 => ?_) (fun hc1 => ?_)
  · exact Wk.rV (by decide +kernel) rfl (by first | rfl | omega) rfl
  · refine Wk.iload_n (k := 1) (q := 5) (by decide +kernel) rfl rfl rfl ?_
    refine Wk.aload_n (k := 0) (q := 6) (by decide +kernel) rfl rfl rfl ?_
    refine Wk.getR (r := 2) (q := 9) f_Harb_9 (by decide +kernel) O_1 (by decide) rfl rfl rfl ?_
    refine Wk.alen (q := 10) (by decide +kernel) A_2 rfl rfl ?_
    refine Wk.icmp_ge (off := (10)) (t := 20) (q := 13) (by decide +kernel) (by decide) rfl (by first | omega | exact bi_rng _) (by first | omega | exact bi_rng _) (fun hc10 => ?_) (fun hc10 => ?_)
    · exact Wk.rV (by decide +kernel) rfl (by first | rfl | omega) rfl
    · refine Wk.aload_n (k := 0) (q := 14) (by decide +kernel) rfl rfl rfl ?_
      refine Wk.getR (r := 2) (q := 17) f_Harb_9 (by decide +kernel) O_1 (by decide) rfl rfl rfl ?_
      refine Wk.iload_n (k := 1) (q := 18) (by decide +kernel) rfl rfl rfl ?_
      refine Wk.iload_n (k := 2) (q := 19) (by decide +kernel) rfl rfl rfl ?_
      refine Wk.iastore (q := 20) (by decide +kernel) A_2 (by first | omega | exact bi_rng _) (by first | omega | exact bi_rng _) rfl ?_
      exact Wk.rV (by decide +kernel) rfl (by first | rfl | omega) rfl
/-- a ship's slot copied; one that waits added -/
def cpS (I : IM) (f t : Int) : IM := iup (iup (iup (iup (iup I 3 t (I 3 f)) 4 t (I 4 f)) 5 t (I 5 f)) 6 t (I 6 f)) 7 t (I 7 f)
theorem c_Harb_copySlot {f t : Int} (hf : 0 ≤ f ∧ f < 8) (ht : 0 ≤ t ∧ t < 8) : Wk xs x_Harb_copySlot d 0 0 0 [some (vr 1), some (vi f), some (vi t)] [] X2 I L (pV (cpS I f t) L) := by
  refine Wk.aload_n (k := 0) (q := 1) (by decide +kernel) rfl rfl rfl ?_
  refine Wk.getR (r := 3) (q := 4) f_Harb_15 (by decide +kernel) O_1 (by decide) rfl rfl rfl ?_
  refine Wk.iload_n (k := 2) (q := 5) (by decide +kernel) rfl rfl rfl ?_
  refine Wk.aload_n (k := 0) (q := 6) (by decide +kernel) rfl rfl rfl ?_
  refine Wk.getR (r := 3) (q := 9) f_Harb_15 (by decide +kernel) O_1 (by decide) rfl rfl rfl ?_
  refine Wk.iload_n (k := 1) (q := 10) (by decide +kernel) rfl rfl rfl ?_
  refine Wk.iaload (q := 11) (by decide +kernel) A_3 (by first | omega | exact bi_rng _) (by first | omega | exact bi_rng _) rfl ?_
  refine Wk.iastore (q := 12) (by decide +kernel) A_3 (by first | omega | exact bi_rng _) (by first | omega | exact bi_rng _) rfl ?_
  refine Wk.aload_n (k := 0) (q := 13) (by decide +kernel) rfl rfl rfl ?_
  refine Wk.getR (r := 4) (q := 16) f_Harb_18 (by decide +kernel) O_1 (by decide) rfl rfl rfl ?_
  refine Wk.iload_n (k := 2) (q := 17) (by decide +kernel) rfl rfl rfl ?_
  refine Wk.aload_n (k := 0) (q := 18) (by decide +kernel) rfl rfl rfl ?_
  refine Wk.getR (r := 4) (q := 21) f_Harb_18 (by decide +kernel) O_1 (by decide) rfl rfl rfl ?_
  refine Wk.iload_n (k := 1) (q := 22) (by decide +kernel) rfl rfl rfl ?_
  refine Wk.iaload (q := 23) (by decide +kernel) A_4 (by first | omega | exact bi_rng _) (by first | omega | exact bi_rng _) rfl ?_
  refine Wk.iastore (q := 24) (by decide +kernel) A_4 (by first | omega | exact bi_rng _) (by first | omega | exact bi_rng _) rfl ?_
  refine Wk.aload_n (k := 0) (q := 25) (by decide +kernel) rfl rfl rfl ?_
  refine Wk.getR (r := 5) (q := 28) f_Harb_21 (by decide +kernel) O_1 (by decide) rfl rfl rfl ?_
  refine Wk.iload_n (k := 2) (q := 29) (by decide +kernel) rfl rfl rfl ?_
  refine Wk.aload_n (k := 0) (q := 30) (by decide +kernel) rfl rfl rfl ?_
  refine Wk.getR (r := 5) (q := 33) f_Harb_21 (by decide +kernel) O_1 (by decide) rfl rfl rfl ?_
  refine Wk.iload_n (k := 1) (q := 34) (by decide +kernel) rfl rfl rfl ?_
  refine Wk.iaload (q := 35) (by decide +kernel) A_5 (by first | omega | exact bi_rng _) (by first | omega | exact bi_rng _) rfl ?_
  refine Wk.iastore (q := 36) (by decide +kernel) A_5 (by first | omega | exact bi_rng _) (by first | omega | exact bi_rng _) rfl ?_
  refine Wk.aload_n (k := 0) (q := 37) (by decide +kernel) rfl rfl rfl ?_
  refine Wk.getR (r := 6) (q := 40) f_Harb_24 (by decide +kernel) O_1 (by decide) rfl rfl rfl ?_
  refine Wk.iload_n (k := 2) (q := 41) (by decide +kernel) rfl rfl rfl ?_
  refine Wk.aload_n (k := 0) (q := 42) (by decide +kernel) rfl rfl rfl ?_
  refine Wk.getR (r := 6) (q := 45) f_Harb_24 (by decide +kernel) O_1 (by decide) rfl rfl rfl ?_
  refine Wk.iload_n (k := 1) (q := 46) (by decide +kernel) rfl rfl rfl ?_
  refine Wk.iaload (q := 47) (by decide +kernel) A_6 (by first | omega | exact bi_rng _) (by first | omega | exact bi_rng _) rfl ?_
  refine Wk.iastore (q := 48) (by decide +kernel) A_6 (by first | omega | exact bi_rng _) (by first | omega | exact bi_rng _) rfl ?_
  refine Wk.aload_n (k := 0) (q := 49) (by decide +kernel) rfl rfl rfl ?_
  refine Wk.getR (r := 7) (q := 52) f_Harb_27 (by decide +kernel) O_1 (by decide) rfl rfl rfl ?_
  refine Wk.iload_n (k := 2) (q := 53) (by decide +kernel) rfl rfl rfl ?_
  refine Wk.aload_n (k := 0) (q := 54) (by decide +kernel) rfl rfl rfl ?_
  refine Wk.getR (r := 7) (q := 57) f_Harb_27 (by decide +kernel) O_1 (by decide) rfl rfl rfl ?_
  refine Wk.iload_n (k := 1) (q := 58) (by decide +kernel) rfl rfl rfl ?_
  refine Wk.iaload (q := 59) (by decide +kernel) A_7 (by first | omega | exact bi_rng _) (by first | omega | exact bi_rng _) rfl ?_
  refine Wk.iastore (q := 60) (by decide +kernel) A_7 (by first | omega | exact bi_rng _) (by first | omega | exact bi_rng _) rfl ?_
  exact Wk.rV (by decide +kernel) rfl (rfl) rfl
theorem c_Harb_letWait {a b c : Int} (h : 0 ≤ I 1 5 ∧ I 1 5 < 3) : Wk xs x_Harb_letWait d 0 0 0 [some (vr 1), some (vi a), some (vi b), some (vi c), none] [] X2 I L (pV (iup (iup (iup (iup I 3 (5 + I 1 5) a) 4 (5 + I 1 5) b) 5 (5 + I 1 5) c) 1 5 (I 1 5 + 1)) L) := by
  refine Wk.aload_n (k := 0) (q := 1) (by decide +kernel) rfl rfl rfl ?_
  refine Wk.getI (z := 5) (q := 4) f_Harb_50 (by decide +kernel) O_1 (by decide) rfl rfl rfl ?_
  refine Wk.iconst (n := 3) (q := 5) (by decide +kernel) rfl ?_
  refine Wk.icmp_lt (off := (4)) (t := 9) (q := 8) (by decide +kernel) (by decide) rfl (by first | omega | exact bi_rng _) (by first | omega | exact bi_rng _) (fun hc5 => ?_) (fun hc5 => ?_)
  · refine Wk.iconst (n := 5) (q := 10) (by decide +kernel) rfl ?_
    refine Wk.aload_n (k := 0) (q := 11) (by decide +kernel) rfl rfl rfl ?_
    refine Wk.getI (z := 5) (q := 14) f_Harb_50 (by decide +kernel) O_1 (by decide) rfl rfl rfl ?_
    refine Wk.iadd (q := 15) (by decide +kernel) rfl ?_
    refine Wk.istore (i := 4) (q := 17) (by decide +kernel) (by decide) rfl (fun _ h => h) rfl ?_
    refine Wk.aload_n (k := 0) (q := 18) (by decide +kernel) rfl rfl rfl ?_
    refine Wk.getR (r := 3) (q := 21) f_Harb_15 (by decide +kernel) O_1 (by decide) rfl rfl rfl ?_
    refine Wk.iload (i := 4) (q := 23) (by decide +kernel) rfl rfl ?_
    refine Wk.iload_n (k := 1) (q := 24) (by decide +kernel) rfl rfl rfl ?_
    refine Wk.iastore (q := 25) (by decide +kernel) A_3 (by first | omega | exact bi_rng _) (by first | omega | exact bi_rng _) rfl ?_
    refine Wk.aload_n (k := 0) (q := 26) (by decide +kernel) rfl rfl rfl ?_
    refine Wk.getR (r := 4) (q := 29) f_Harb_18 (by decide +kernel) O_1 (by decide) rfl rfl rfl ?_
    refine Wk.iload (i := 4) (q := 31) (by decide +kernel) rfl rfl ?_
    refine Wk.iload_n (k := 2) (q := 32) (by decide +kernel) rfl rfl rfl ?_
    refine Wk.iastore (q := 33) (by decide +kernel) A_4 (by first | omega | exact bi_rng _) (by first | omega | exact bi_rng _) rfl ?_
    refine Wk.aload_n (k := 0) (q := 34) (by decide +kernel) rfl rfl rfl ?_
    refine Wk.getR (r := 5) (q := 37) f_Harb_21 (by decide +kernel) O_1 (by decide) rfl rfl rfl ?_
    refine Wk.iload (i := 4) (q := 39) (by decide +kernel) rfl rfl ?_
    refine Wk.iload_n (k := 3) (q := 40) (by decide +kernel) rfl rfl rfl ?_
    refine Wk.iastore (q := 41) (by decide +kernel) A_5 (by first | omega | exact bi_rng _) (by first | omega | exact bi_rng _) rfl ?_
    refine Wk.aload_n (k := 0) (q := 42) (by decide +kernel) rfl rfl rfl ?_
    refine Wk.dup (q := 43) (by decide +kernel) rfl rfl ?_
    refine Wk.getI (z := 5) (q := 46) f_Harb_50 (by decide +kernel) O_1 (by decide) rfl rfl rfl ?_
    refine Wk.iconst (n := 1) (q := 47) (by decide +kernel) rfl ?_
    refine Wk.iadd (q := 48) (by decide +kernel) rfl ?_
    refine Wk.putI (z := 5) (q := 51) f_Harb_50 fw_Harb_5 (by decide +kernel) O_1 (by decide) rfl rfl ⟨rfl, rfl⟩ rfl ?_
    exact Wk.rV (by decide +kernel) rfl (by first | omega | rfl) rfl
  · exact Wk.rV (by decide +kernel) rfl (by first | omega | rfl) rfl
theorem c_Harb_putAt {s p : Int} (h : 0 ≤ s ∧ s < 8) (hp : 0 ≤ p ∧ p < 64) : Wk xs x_Harb_putAt (d + 1) 0 0 0 [some (vr 1), some (vi s), some (vi p)] [] X2 I L (pV (iup (iup I 6 s (p % 8)) 7 s (p / 8)) L) := by
  refine Wk.iload_n (k := 1) (q := 1) (by decide +kernel) rfl rfl rfl ?_
  refine Wk.if_lt (off := (29)) (t := 30) (q := 4) (by decide +kernel) (by decide) rfl (by first | omega | exact bi_rng _) (fun hc1 => ?_) (fun hc1 => ?_)
  · exact Wk.rV (by decide +kernel) rfl (by first | rfl | omega) rfl
  · refine Wk.iload_n (k := 1) (q := 5) (by decide +kernel) rfl rfl rfl ?_
    refine Wk.bipush (n := 8) (q := 7) (by decide +kernel) (by decide +kernel) rfl ?_
    refine Wk.icmp_ge (off := (23)) (t := 30) (q := 10) (by decide +kernel) (by decide) rfl (by first | omega | exact bi_rng _) (by first | omega | exact bi_rng _) (fun hc7 => ?_) (fun hc7 => ?_)
    · exact Wk.rV (by decide +kernel) rfl (by first | rfl | omega) rfl
    · refine Wk.aload_n (k := 0) (q := 11) (by decide +kernel) rfl rfl rfl ?_
      refine Wk.getR (r := 6) (q := 14) f_Harb_24 (by decide +kernel) O_1 (by decide) rfl rfl rfl ?_
      refine Wk.iload_n (k := 1) (q := 15) (by decide +kernel) rfl rfl rfl ?_
      refine Wk.iload_n (k := 2) (q := 16) (by decide +kernel) rfl rfl rfl ?_
      refine Wk.cNi (q := 19) ln_Harb_79 m_Sw_columnOf (by decide +kernel) (fun _ h => h) (Nat.le_of_ble_eq_true rfl) (Nat.le_of_ble_eq_true rfl) rfl (c_Sw_columnOf (by omega) (by omega)) rfl ?_
      refine Wk.iastore (q := 20) (by decide +kernel) A_6 (by first | omega | exact bi_rng _) (by first | omega | exact bi_rng _) rfl ?_
      refine Wk.aload_n (k := 0) (q := 21) (by decide +kernel) rfl rfl rfl ?_
      refine Wk.getR (r := 7) (q := 24) f_Harb_27 (by decide +kernel) O_1 (by decide) rfl rfl rfl ?_
      refine Wk.iload_n (k := 1) (q := 25) (by decide +kernel) rfl rfl rfl ?_
      refine Wk.iload_n (k := 2) (q := 26) (by decide +kernel) rfl rfl rfl ?_
      refine Wk.cNi (q := 29) ln_Harb_83 m_Sw_lineOf (by decide +kernel) (fun _ h => h) (Nat.le_of_ble_eq_true rfl) (Nat.le_of_ble_eq_true rfl) rfl (c_Sw_lineOf (by omega) (by omega)) rfl ?_
      refine Wk.iastore (q := 30) (by decide +kernel) A_7 (by first | omega | exact bi_rng _) (by first | omega | exact bi_rng _) rfl ?_
      exact Wk.rV (by decide +kernel) rfl (by first | rfl | omega) rfl
end HB
