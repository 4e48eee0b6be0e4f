/-! WHERE A SHIP MAY LIE, and where it clashes, as spots -/
theorem colP : ∀ n, n < 8 → ∀ s, s < 64 → bl (((255 : Int64).toUInt64 >>> ((nZ (n : Nat)).toInt64.toUInt64 &&& Int64.toUInt64 63)).toInt64 * 72340172838076673) (s : Nat) = decide (s % 8 + n < 8) := by decide +kernel
theorem colN : ∀ n, n < 8 → ∀ s, s < 64 → bl ((((255 : Int64) <<< ((nZ (n : Nat)).toInt64 &&& 63)) &&& 255) * 72340172838076673) (s : Nat) = decide (n ≤ s % 8) := by decide +kernel
theorem colP' {x s : Int} (hx : 0 ≤ x ∧ x < 8) (hs : 0 ≤ s ∧ s < 64) : bl (((255 : Int64).toUInt64 >>> ((nZ x).toInt64.toUInt64 &&& Int64.toUInt64 63)).toInt64 * 72340172838076673) s = true ↔ s % 8 + x < 8 := by
  have h := colP x.toNat (by omega) s.toNat (by omega)
  rw [Int.toNat_of_nonneg hx.1, Int.toNat_of_nonneg hs.1] at h
  rw [h, decide_eq_true_eq]
  omega
theorem colN' {x s : Int} (hx : 0 ≤ x ∧ x < 8) (hs : 0 ≤ s ∧ s < 64) : bl ((((255 : Int64) <<< ((nZ x).toInt64 &&& 63)) &&& 255) * 72340172838076673) s = true ↔ x ≤ s % 8 := by
  have h := colN x.toNat (by omega) s.toNat (by omega)
  rw [Int.toNat_of_nonneg hx.1, Int.toNat_of_nonneg hs.1] at h
  rw [h, decide_eq_true_eq]
  omega
theorem bl_big {w : Int64} {i : Int} (h : 64 ≤ i) : bl w i = false := by
  unfold bl
  exact BitVec.getLsbD_of_ge _ _ (by omega)
def in8 (x y : Int) : Prop := (0 ≤ x ∧ x < 8) ∧ 0 ≤ y ∧ y < 8
def offP (P : Int → Int → Prop) (x y : Int) : Int → Int → Prop := fun sx sy => in8 (sx + x) (sy + y) ∧ P (sx + x) (sy + y)
/-- the shifted long, behind the columns' mask -/
theorem seen_of {w c : Int64} {P : Int → Int → Prop} {x y : Int} (h : LB w P) (hx : -4 ≤ x ∧ x ≤ 4) (hy : -4 ≤ y ∧ y ≤ 4) (hc : ∀ s, 0 ≤ s → s < 64 → (bl c s = true ↔ 0 ≤ s % 8 + x ∧ s % 8 + x < 8)) {u : Int64} (hu : ∀ s, 0 ≤ s → s < 64 → (bl u s = true ↔ 0 ≤ s + (y * 8 + x) ∧ bl w (s + (y * 8 + x)) = true)) : LB (u &&& c) (offP P x y) := by
  intro s h0 h1
  rw [bl_and, Bool.and_eq_true, hc s h0 h1, hu s h0 h1]
  unfold offP in8
  constructor
  · rintro ⟨⟨a1, a2⟩, a3⟩
    by_cases hb : s / 8 + y < 8
    · have e : s + (y * 8 + x) = (s / 8 + y) * 8 + (s % 8 + x) := by omega
      rw [e, h.at (by omega) (by omega)] at a2
      exact ⟨⟨a3, by omega⟩, a2⟩
    · rw [bl_big (by omega)] at a2
      cases a2
  · rintro ⟨⟨a1, a2⟩, a3⟩
    have e : s + (y * 8 + x) = (s / 8 + y) * 8 + (s % 8 + x) := by omega
    refine ⟨⟨by omega, ?_⟩, a1⟩
    rw [e, h.at (by omega) (by omega)]
    exact a3
section SEA
variable {xs : RO} {d : Nat} {I : IM} {L : LM}

theorem c_Sear_seenFrom {w : Int64} {P : Int → Int → Prop} {x y : Int} (h : LB w P) (hx : -4 ≤ x ∧ x ≤ 4) (hy : -4 ≤ y ∧ y ≤ 4) : Wk xs x_Sear_seenFrom d 0 0 0 [some (vl w), none, some (vi x), some (vi y), none, none, none, none, none] [] X2 I L (pLB (offP P x y) I L) := by
  refine Wk.iload_n (k := 3) (q := 1) (by decide +kernel) rfl rfl rfl ?_
  refine Wk.bipush (n := 8) (q := 3) (by decide +kernel) (by decide +kernel) rfl ?_
  refine Wk.imul (q := 4) (by decide +kernel) rfl ?_
  refine Wk.iload_n (k := 2) (q := 5) (by decide +kernel) rfl rfl rfl ?_
  refine Wk.iadd (q := 6) (by decide +kernel) rfl ?_
  refine Wk.istore (i := 4) (q := 8) (by decide +kernel) (by decide) rfl (fun _ h => h) rfl ?_
  refine Wk.iload (i := 4) (q := 10) (by decide +kernel) rfl rfl ?_
  refine Wk.if_lt (off := (10)) (t := 20) (q := 13) (by decide +kernel) (by decide) rfl (by first | omega | exact bi_rng _) (fun hc10 => ?_) (fun hc10 => ?_)
  · refine Wk.lload_n (k := 0) (q := 21) (by decide +kernel) rfl rfl rfl ?_
    refine Wk.iload (i := 4) (q := 23) (by decide +kernel) rfl rfl ?_
    refine Wk.ineg (q := 24) (by decide +kernel) rfl ?_
    refine Wk.lshl (q := 25) (by decide +kernel) rfl ?_
    refine Wk.lstore (i := 5) (q := 27) (by decide +kernel) (by decide) rfl (fun _ h => h) rfl ?_
    refine Wk.iload_n (k := 2) (q := 28) (by decide +kernel) rfl rfl rfl ?_
    refine Wk.if_lt (off := (11)) (t := 39) (q := 31) (by decide +kernel) (by decide) rfl (by first | omega | exact bi_rng _) (fun hc28 => ?_) (fun hc28 => ?_)
    · refine Wk.ldc2 (q := 42) k_Sear_158 (by decide +kernel) rfl ?_
      refine Wk.iload_n (k := 2) (q := 43) (by decide +kernel) rfl rfl rfl ?_
      refine Wk.ineg (q := 44) (by decide +kernel) rfl ?_
      refine Wk.lshl (q := 45) (by decide +kernel) rfl ?_
      refine Wk.ldc2 (q := 48) k_Sear_158 (by decide +kernel) rfl ?_
      refine Wk.land (q := 49) (by decide +kernel) rfl ?_
      refine Wk.lstore (i := 7) (q := 51) (by decide +kernel) (by decide) rfl (fun _ h => h) rfl ?_
      refine Wk.lload (i := 5) (q := 53) (by decide +kernel) rfl rfl ?_
      refine Wk.lload (i := 7) (q := 55) (by decide +kernel) rfl rfl ?_
      refine Wk.ldc2 (q := 58) k_Sear_160 (by decide +kernel) rfl ?_
      refine Wk.lmul (q := 59) (by decide +kernel) rfl ?_
      refine Wk.land (q := 60) (by decide +kernel) rfl ?_
      exact Wk.rlP (by decide +kernel) rfl (⟨⟨_, rfl, seen_of h hx hy (fun s s0 s1 => by
      first
        | (rw [colP' (by omega) ⟨s0, s1⟩]; omega)
        | (rw [colN' (by omega) ⟨s0, s1⟩]; omega)) (fun s s0 s1 => by
      first
        | (rw [bl_ushr w (by omega) (by omega) s0]; exact ⟨fun q => ⟨by omega, q⟩, fun q => q.2⟩)
        | (rw [bl_shl w (by omega) (by omega) s0 s1, Bool.and_eq_true, decide_eq_true_eq, show s - -(y * 8 + x) = s + (y * 8 + x) by omega]; exact ⟨fun q => ⟨by omega, q.2⟩, fun q => ⟨by omega, q.2⟩⟩))⟩, rfl, rfl⟩)
    · refine Wk.ldc2 (q := 34) k_Sear_158 (by decide +kernel) rfl ?_
      refine Wk.iload_n (k := 2) (q := 35) (by decide +kernel) rfl rfl rfl ?_
      refine Wk.lushr (q := 36) (by decide +kernel) rfl ?_
      refine Wk.goto (off := (13)) (q := 49) (by decide +kernel) (by decide) ?_
      refine Wk.lstore (i := 7) (q := 51) (by decide +kernel) (by decide) rfl (fun _ h => h) rfl ?_
      refine Wk.lload (i := 5) (q := 53) (by decide +kernel) rfl rfl ?_
      refine Wk.lload (i := 7) (q := 55) (by decide +kernel) rfl rfl ?_
      refine Wk.ldc2 (q := 58) k_Sear_160 (by decide +kernel) rfl ?_
      refine Wk.lmul (q := 59) (by decide +kernel) rfl ?_
      refine Wk.land (q := 60) (by decide +kernel) rfl ?_
      exact Wk.rlP (by decide +kernel) rfl (⟨⟨_, rfl, seen_of h hx hy (fun s s0 s1 => by
      first
        | (rw [colP' (by omega) ⟨s0, s1⟩]; omega)
        | (rw [colN' (by omega) ⟨s0, s1⟩]; omega)) (fun s s0 s1 => by
      first
        | (rw [bl_ushr w (by omega) (by omega) s0]; exact ⟨fun q => ⟨by omega, q⟩, fun q => q.2⟩)
        | (rw [bl_shl w (by omega) (by omega) s0 s1, Bool.and_eq_true, decide_eq_true_eq, show s - -(y * 8 + x) = s + (y * 8 + x) by omega]; exact ⟨fun q => ⟨by omega, q.2⟩, fun q => ⟨by omega, q.2⟩⟩))⟩, rfl, rfl⟩)
  · refine Wk.lload_n (k := 0) (q := 14) (by decide +kernel) rfl rfl rfl ?_
    refine Wk.iload (i := 4) (q := 16) (by decide +kernel) rfl rfl ?_
    refine Wk.lushr (q := 17) (by decide +kernel) rfl ?_
    refine Wk.goto (off := (8)) (q := 25) (by decide +kernel) (by decide) ?_
    refine Wk.lstore (i := 5) (q := 27) (by decide +kernel) (by decide) rfl (fun _ h => h) rfl ?_
    refine Wk.iload_n (k := 2) (q := 28) (by decide +kernel) rfl rfl rfl ?_
    refine Wk.if_lt (off := (11)) (t := 39) (q := 31) (by decide +kernel) (by decide) rfl (by first | omega | exact bi_rng _) (fun hc28 => ?_) (fun hc28 => ?_)
    · refine Wk.ldc2 (q := 42) k_Sear_158 (by decide +kernel) rfl ?_
      refine Wk.iload_n (k := 2) (q := 43) (by decide +kernel) rfl rfl rfl ?_
      refine Wk.ineg (q := 44) (by decide +kernel) rfl ?_
      refine Wk.lshl (q := 45) (by decide +kernel) rfl ?_
      refine Wk.ldc2 (q := 48) k_Sear_158 (by decide +kernel) rfl ?_
      refine Wk.land (q := 49) (by decide +kernel) rfl ?_
      refine Wk.lstore (i := 7) (q := 51) (by decide +kernel) (by decide) rfl (fun _ h => h) rfl ?_
      refine Wk.lload (i := 5) (q := 53) (by decide +kernel) rfl rfl ?_
      refine Wk.lload (i := 7) (q := 55) (by decide +kernel) rfl rfl ?_
      refine Wk.ldc2 (q := 58) k_Sear_160 (by decide +kernel) rfl ?_
      refine Wk.lmul (q := 59) (by decide +kernel) rfl ?_
      refine Wk.land (q := 60) (by decide +kernel) rfl ?_
      exact Wk.rlP (by decide +kernel) rfl (⟨⟨_, rfl, seen_of h hx hy (fun s s0 s1 => by
      first
        | (rw [colP' (by omega) ⟨s0, s1⟩]; omega)
        | (rw [colN' (by omega) ⟨s0, s1⟩]; omega)) (fun s s0 s1 => by
      first
        | (rw [bl_ushr w (by omega) (by omega) s0]; exact ⟨fun q => ⟨by omega, q⟩, fun q => q.2⟩)
        | (rw [bl_shl w (by omega) (by omega) s0 s1, Bool.and_eq_true, decide_eq_true_eq, show s - -(y * 8 + x) = s + (y * 8 + x) by omega]; exact ⟨fun q => ⟨by omega, q.2⟩, fun q => ⟨by omega, q.2⟩⟩))⟩, rfl, rfl⟩)
    · refine Wk.ldc2 (q := 34) k_Sear_158 (by decide +kernel) rfl ?_
      refine Wk.iload_n (k := 2) (q := 35) (by decide +kernel) rfl rfl rfl ?_
      refine Wk.lushr (q := 36) (by decide +kernel) rfl ?_
      refine Wk.goto (off := (13)) (q := 49) (by decide +kernel) (by decide) ?_
      refine Wk.lstore (i := 7) (q := 51) (by decide +kernel) (by decide) rfl (fun _ h => h) rfl ?_
      refine Wk.lload (i := 5) (q := 53) (by decide +kernel) rfl rfl ?_
      refine Wk.lload (i := 7) (q := 55) (by decide +kernel) rfl rfl ?_
      refine Wk.ldc2 (q := 58) k_Sear_160 (by decide +kernel) rfl ?_
      refine Wk.lmul (q := 59) (by decide +kernel) rfl ?_
      refine Wk.land (q := 60) (by decide +kernel) rfl ?_
      exact Wk.rlP (by decide +kernel) rfl (⟨⟨_, rfl, seen_of h hx hy (fun s s0 s1 => by
      first
        | (rw [colP' (by omega) ⟨s0, s1⟩]; omega)
        | (rw [colN' (by omega) ⟨s0, s1⟩]; omega)) (fun s s0 s1 => by
      first
        | (rw [bl_ushr w (by omega) (by omega) s0]; exact ⟨fun q => ⟨by omega, q⟩, fun q => q.2⟩)
        | (rw [bl_shl w (by omega) (by omega) s0 s1, Bool.and_eq_true, decide_eq_true_eq, show s - -(y * 8 + x) = s + (y * 8 + x) by omega]; exact ⟨fun q => ⟨by omega, q.2⟩, fun q => ⟨by omega, q.2⟩⟩))⟩, rfl, rfl⟩)
theorem c_Sear_square {x y n : Int} (hx : 0 ≤ x ∧ x + n ≤ 8) (hy : 0 ≤ y ∧ y + n ≤ 8) (hn : 0 ≤ n ∧ n ≤ 3) : Wk xs x_Sear_square (d + 1) 0 0 0 [some (vi x), some (vi y), some (vi n), none, none, none, none] [] X2 I L (pLB (fun cx cy => (x ≤ cx ∧ cx < x + n) ∧ y ≤ cy ∧ cy < y + n) I L) := by
  have key : ∀ o8 : Option AV, Wk xs x_Sear_square (d + 1) 0 0 5 [some (vi x), some (vi y), some (vi n), some (vl 0), none, some (vi 0), o8] [] X2 I L (pLB (fun cx cy => (x ≤ cx ∧ cx < x + n) ∧ y ≤ cy ∧ cy < y + n) I L) := by
    intro o8
    refine loopS (σ := Int64 × Option AV) (fun j s => Wk xs x_Sear_square (d + 1) 0 0 5 [some (vi x), some (vi y), some (vi n), some (vl s.1), none, some (vi j), s.2] [] X2 I L (pLB (fun cx cy => (x ≤ cx ∧ cx < x + n) ∧ y ≤ cy ∧ cy < y + n) I L)) (fun j s => LB s.1 (fun cx cy => (x ≤ cx ∧ cx < x + n) ∧ y ≤ cy ∧ cy < y + j)) n 0 (0, o8) (by omega) (LB.zero (fun x y q => by omega)) ?_ ?_
    · intro s hJ
      obtain ⟨u, o9⟩ := s
      simp only at hJ ⊢
      refine Wk.iload (i := 5) (q := 7) (by decide +kernel) rfl rfl ?_
      refine Wk.iload_n (k := 2) (q := 8) (by decide +kernel) rfl rfl rfl ?_
      refine Wk.icmp_ge (off := (40)) (t := 48) (q := 11) (by decide +kernel) (by decide) rfl (by first | omega | exact bi_rng _) (by first | omega | exact bi_rng _) (fun hc8 => ?_) (fun hc8 => ?_)
      · refine Wk.lload_n (k := 3) (q := 49) (by decide +kernel) rfl rfl rfl ?_
        exact Wk.rlP (by decide +kernel) rfl (⟨⟨u, rfl, hJ⟩, rfl, rfl⟩)
      · omega
    · intro j s y0 y1 hJ ih
      obtain ⟨u, o9⟩ := s
      simp only at hJ ⊢
      refine Wk.iload (i := 5) (q := 7) (by decide +kernel) rfl rfl ?_
      refine Wk.iload_n (k := 2) (q := 8) (by decide +kernel) rfl rfl rfl ?_
      refine Wk.icmp_ge (off := (40)) (t := 48) (q := 11) (by decide +kernel) (by decide) rfl (by first | omega | exact bi_rng _) (by first | omega | exact bi_rng _) (fun hc8 => ?_) (fun hc8 => ?_)
      · omega
      · have key2 : Wk xs x_Sear_square (d + 1) 0 0 14 [some (vi x), some (vi y), some (vi n), some (vl u), none, some (vi j), some (vi 0)] [] X2 I L (pLB (fun cx cy => (x ≤ cx ∧ cx < x + n) ∧ y ≤ cy ∧ cy < y + n) I L) := by
          refine loopS (σ := Int64) (fun i u => Wk xs x_Sear_square (d + 1) 0 0 14 [some (vi x), some (vi y), some (vi n), some (vl u), none, some (vi j), some (vi i)] [] X2 I L (pLB (fun cx cy => (x ≤ cx ∧ cx < x + n) ∧ y ≤ cy ∧ cy < y + n) I L)) (fun i u => LB u (fun cx cy => ((x ≤ cx ∧ cx < x + n) ∧ y ≤ cy ∧ cy < y + j) ∨ ((x ≤ cx ∧ cx < x + i) ∧ cy = y + j))) n 0 u (by omega) (hJ.cong (fun cx cy _ _ _ _ => by omega)) ?_ ?_
          · intro u hM
            refine Wk.iload (i := 6) (q := 16) (by decide +kernel) rfl rfl ?_
            refine Wk.iload_n (k := 2) (q := 17) (by decide +kernel) rfl rfl rfl ?_
            refine Wk.icmp_ge (off := (25)) (t := 42) (q := 20) (by decide +kernel) (by decide) rfl (by first | omega | exact bi_rng _) (by first | omega | exact bi_rng _) (fun hc17 => ?_) (fun hc17 => ?_)
            · refine Wk.iinc (i := 5) (n := 1) (q := 45) (by decide +kernel) rfl (by decide) rfl (fun _ h => h) rfl ?_
              refine Wk.goto (off := (-40)) (q := 5) (by decide +kernel) (by decide) ?_
              exact ih (u, _) (hM.cong (fun cx cy _ _ _ _ => by omega))
            · omega
          · intro i u x0 x1 hM ih2
            refine Wk.iload (i := 6) (q := 16) (by decide +kernel) rfl rfl ?_
            refine Wk.iload_n (k := 2) (q := 17) (by decide +kernel) rfl rfl rfl ?_
            refine Wk.icmp_ge (off := (25)) (t := 42) (q := 20) (by decide +kernel) (by decide) rfl (by first | omega | exact bi_rng _) (by first | omega | exact bi_rng _) (fun hc17 => ?_) (fun hc17 => ?_)
            · omega
            · refine Wk.lload_n (k := 3) (q := 21) (by decide +kernel) rfl rfl rfl ?_
              refine Wk.lconst (n := 1) (v := 1) (q := 22) (by decide +kernel) rfl rfl ?_
              refine Wk.iload_n (k := 0) (q := 23) (by decide +kernel) rfl rfl rfl ?_
              refine Wk.iload (i := 6) (q := 25) (by decide +kernel) rfl rfl ?_
              refine Wk.iadd (q := 26) (by decide +kernel) rfl ?_
              refine Wk.iload_n (k := 1) (q := 27) (by decide +kernel) rfl rfl rfl ?_
              refine Wk.iload (i := 5) (q := 29) (by decide +kernel) rfl rfl ?_
              refine Wk.iadd (q := 30) (by decide +kernel) rfl ?_
              refine Wk.cNi (q := 33) ln_Sear_93 m_Sw_spotAt (by decide +kernel) (fun _ h => h) (Nat.le_of_ble_eq_true rfl) (Nat.le_of_ble_eq_true rfl) rfl (c_Sw_spotAt) rfl ?_
              refine Wk.lshl (q := 34) (by decide +kernel) rfl ?_
              refine Wk.lor (q := 35) (by decide +kernel) rfl ?_
              refine Wk.lstore_n (k := 3) (q := 36) (by decide +kernel) rfl (by decide) rfl (fun _ h => h) rfl ?_
              refine Wk.iinc (i := 6) (n := 1) (q := 39) (by decide +kernel) rfl (by decide) rfl (fun _ h => h) rfl ?_
              refine Wk.goto (off := (-25)) (q := 14) (by decide +kernel) (by decide) ?_
              exact ih2 _ ((hM.or (LB.one (x := x + i) (y := y + j) (by omega) (by omega))).cong (fun cx cy _ _ _ _ => by omega))
        refine Wk.iconst (n := 0) (q := 12) (by decide +kernel) rfl ?_
        refine Wk.istore (i := 6) (q := 14) (by decide +kernel) (by decide) rfl (fun _ h => h) rfl ?_
        exact key2
  refine Wk.lconst (n := 0) (v := 0) (q := 1) (by decide +kernel) rfl rfl ?_
  refine Wk.lstore_n (k := 3) (q := 2) (by decide +kernel) rfl (by decide) rfl (fun _ h => h) rfl ?_
  refine Wk.iconst (n := 0) (q := 3) (by decide +kernel) rfl ?_
  refine Wk.istore (i := 5) (q := 5) (by decide +kernel) (by decide) rfl (fun _ h => h) rfl ?_
  exact key none
theorem c_Sear_squareIn {w : Int64} {P : Int → Int → Prop} {x y n : Int} (h : LB w P) (hx : -2 ≤ x ∧ x ≤ 2) (hy : -2 ≤ y ∧ y ≤ 2) (hn : 0 ≤ n ∧ n ≤ 2) : Wk xs x_Sear_squareIn (d + 1) 0 0 0 [some (vl w), none, some (vi x), some (vi y), some (vi n), none, none, none, none] [] X2 I L (pLB (fun sx sy => ∀ i j, 0 ≤ i → i < n → 0 ≤ j → j < n → offP P (x + i) (y + j) sx sy) I L) := by
  have key : ∀ o8 : Option AV, Wk xs x_Sear_squareIn (d + 1) 0 0 8 [some (vl w), none, some (vi x), some (vi y), some (vi n), some (vl (-1)), none, some (vi 0), o8] [] X2 I L (pLB (fun sx sy => ∀ i j, 0 ≤ i → i < n → 0 ≤ j → j < n → offP P (x + i) (y + j) sx sy) I L) := by
    intro o8
    refine loopS (σ := Int64 × Option AV) (fun j s => Wk xs x_Sear_squareIn (d + 1) 0 0 8 [some (vl w), none, some (vi x), some (vi y), some (vi n), some (vl s.1), none, some (vi j), s.2] [] X2 I L (pLB (fun sx sy => ∀ i j, 0 ≤ i → i < n → 0 ≤ j → j < n → offP P (x + i) (y + j) sx sy) I L)) (fun j s => LB s.1 (fun sx sy => ∀ i b, 0 ≤ i → i < n → 0 ≤ b → b < j → offP P (x + i) (y + b) sx sy)) n 0 (-1, o8) (by omega) (fun s s0 s1 => ⟨fun _ i b _ _ b0 b1 => by omega, fun _ => bl_m1 s0 s1⟩) ?_ ?_
    · intro s hJ
      obtain ⟨u, o9⟩ := s
      simp only at hJ ⊢
      refine Wk.iload (i := 7) (q := 10) (by decide +kernel) rfl rfl ?_
      refine Wk.iload (i := 4) (q := 12) (by decide +kernel) rfl rfl ?_
      refine Wk.icmp_ge (off := (42)) (t := 54) (q := 15) (by decide +kernel) (by decide) rfl (by first | omega | exact bi_rng _) (by first | omega | exact bi_rng _) (fun hc12 => ?_) (fun hc12 => ?_)
      · refine Wk.lload (i := 5) (q := 56) (by decide +kernel) rfl rfl ?_
        exact Wk.rlP (by decide +kernel) rfl (⟨⟨u, rfl, hJ⟩, rfl, rfl⟩)
      · omega
    · intro j s y0 y1 hJ ih
      obtain ⟨u, o9⟩ := s
      simp only at hJ ⊢
      refine Wk.iload (i := 7) (q := 10) (by decide +kernel) rfl rfl ?_
      refine Wk.iload (i := 4) (q := 12) (by decide +kernel) rfl rfl ?_
      refine Wk.icmp_ge (off := (42)) (t := 54) (q := 15) (by decide +kernel) (by decide) rfl (by first | omega | exact bi_rng _) (by first | omega | exact bi_rng _) (fun hc12 => ?_) (fun hc12 => ?_)
      · omega
      · have key2 : Wk xs x_Sear_squareIn (d + 1) 0 0 18 [some (vl w), none, some (vi x), some (vi y), some (vi n), some (vl u), none, some (vi j), some (vi 0)] [] X2 I L (pLB (fun sx sy => ∀ i j, 0 ≤ i → i < n → 0 ≤ j → j < n → offP P (x + i) (y + j) sx sy) I L) := by
          refine loopS (σ := Int64) (fun i u => Wk xs x_Sear_squareIn (d + 1) 0 0 18 [some (vl w), none, some (vi x), some (vi y), some (vi n), some (vl u), none, some (vi j), some (vi i)] [] X2 I L (pLB (fun sx sy => ∀ i j, 0 ≤ i → i < n → 0 ≤ j → j < n → offP P (x + i) (y + j) sx sy) I L)) (fun i u => LB u (fun sx sy => (∀ i b, 0 ≤ i → i < n → 0 ≤ b → b < j → offP P (x + i) (y + b) sx sy) ∧ ∀ a, 0 ≤ a → a < i → offP P (x + a) (y + j) sx sy)) n 0 u (by omega) (hJ.cong (fun cx cy _ _ _ _ => ⟨fun q => ⟨q, fun a a0 a1 => by omega⟩, fun q => q.1⟩)) ?_ ?_
          · intro u hM
            refine Wk.iload (i := 8) (q := 20) (by decide +kernel) rfl rfl ?_
            refine Wk.iload (i := 4) (q := 22) (by decide +kernel) rfl rfl ?_
            refine Wk.icmp_ge (off := (26)) (t := 48) (q := 25) (by decide +kernel) (by decide) rfl (by first | omega | exact bi_rng _) (by first | omega | exact bi_rng _) (fun hc22 => ?_) (fun hc22 => ?_)
            · refine Wk.iinc (i := 7) (n := 1) (q := 51) (by decide +kernel) rfl (by decide) rfl (fun _ h => h) rfl ?_
              refine Wk.goto (off := (-43)) (q := 8) (by decide +kernel) (by decide) ?_
              exact ih (u, _) (hM.cong (fun cx cy _ _ _ _ => ⟨fun q i b i0 i1 => ext1 (fun b b0 b1 => q.1 i b i0 i1 b0 b1) (q.2 i i0 i1) b, fun q => ⟨fun i b i0 i1 b0 b1 => q i b i0 i1 b0 (by omega), fun a a0 a1 => q a j a0 a1 y0 (by omega)⟩⟩))
            · omega
          · intro i u x0 x1 hM ih2
            refine Wk.iload (i := 8) (q := 20) (by decide +kernel) rfl rfl ?_
            refine Wk.iload (i := 4) (q := 22) (by decide +kernel) rfl rfl ?_
            refine Wk.icmp_ge (off := (26)) (t := 48) (q := 25) (by decide +kernel) (by decide) rfl (by first | omega | exact bi_rng _) (by first | omega | exact bi_rng _) (fun hc22 => ?_) (fun hc22 => ?_)
            · omega
            · refine Wk.lload (i := 5) (q := 27) (by decide +kernel) rfl rfl ?_
              refine Wk.lload_n (k := 0) (q := 28) (by decide +kernel) rfl rfl rfl ?_
              refine Wk.iload_n (k := 2) (q := 29) (by decide +kernel) rfl rfl rfl ?_
              refine Wk.iload (i := 8) (q := 31) (by decide +kernel) rfl rfl ?_
              refine Wk.iadd (q := 32) (by decide +kernel) rfl ?_
              refine Wk.iload_n (k := 3) (q := 33) (by decide +kernel) rfl rfl rfl ?_
              refine Wk.iload (i := 7) (q := 35) (by decide +kernel) rfl rfl ?_
              refine Wk.iadd (q := 36) (by decide +kernel) rfl ?_
              refine Wk.cS (q := 39) l_Sear_103 m_Sear_seenFrom (by decide +kernel) (fun _ h => h) (Nat.le_of_ble_eq_true rfl) (Nat.le_of_ble_eq_true rfl) rfl (c_Sear_seenFrom h (by omega) (by omega)) rfl (fun v I' L' hP => ?_)
              obtain ⟨⟨z, rfl, hz⟩, rfl, rfl⟩ := hP
              refine Wk.land (q := 40) (by decide +kernel) rfl ?_
              refine Wk.lstore (i := 5) (q := 42) (by decide +kernel) (by decide) rfl (fun _ h => h) rfl ?_
              refine Wk.iinc (i := 8) (n := 1) (q := 45) (by decide +kernel) rfl (by decide) rfl (fun _ h => h) rfl ?_
              refine Wk.goto (off := (-27)) (q := 18) (by decide +kernel) (by decide) ?_
              exact ih2 _ ((hM.and hz).cong (fun cx cy _ _ _ _ => ⟨fun q => ⟨q.1.1, ext1 q.1.2 q.2⟩, fun q => ⟨⟨q.1, fun a a0 a1 => q.2 a a0 (by omega)⟩, q.2 i x0 (by omega)⟩⟩))
        refine Wk.iconst (n := 0) (q := 16) (by decide +kernel) rfl ?_
        refine Wk.istore (i := 8) (q := 18) (by decide +kernel) (by decide) rfl (fun _ h => h) rfl ?_
        exact key2
  refine Wk.ldc2 (q := 3) k_Sear_85 (by decide +kernel) rfl ?_
  refine Wk.lstore (i := 5) (q := 5) (by decide +kernel) (by decide) rfl (fun _ h => h) rfl ?_
  refine Wk.iconst (n := 0) (q := 6) (by decide +kernel) rfl ?_
  refine Wk.istore (i := 7) (q := 8) (by decide +kernel) (by decide) rfl (fun _ h => h) rfl ?_
  exact key none
theorem c_Sear_deepSpots {r : Int} (hr : 0 ≤ r ∧ r ≤ 9) (hC : CI0 I) : Wk xs x_Sear_deepSpots (d + 2) 0 0 0 [some (vr 1), some (vi r), none, none, none, none] [] X2 I L (pLB (fun cx cy => inE (I 1 0) (I 1 1) cx cy ∧ r ≤ cwat I cx cy) I L) := by
  have hW := hC.1
  have hH := hC.2.1
  have key : ∀ o8 : Option AV, Wk xs x_Sear_deepSpots (d + 2) 0 0 5 [some (vr 1), some (vi r), some (vl 0), none, some (vi 0), o8] [] X2 I L (pLB (fun cx cy => inE (I 1 0) (I 1 1) cx cy ∧ r ≤ cwat I cx cy) I L) := by
    intro o8
    refine loopS (σ := Int64 × Option AV) (fun y s => Wk xs x_Sear_deepSpots (d + 2) 0 0 5 [some (vr 1), some (vi r), some (vl s.1), none, some (vi y), s.2] [] X2 I L (pLB (fun cx cy => inE (I 1 0) (I 1 1) cx cy ∧ r ≤ cwat I cx cy) I L)) (fun y s => LB s.1 (fun cx cy => (inE (I 1 0) (I 1 1) cx cy ∧ r ≤ cwat I cx cy) ∧ cy < y)) (I 1 1) 0 (0, o8) (by omega) (LB.zero (fun x y q => by have := q.1.1; unfold inE at this; omega)) ?_ ?_
    · intro s hJ
      obtain ⟨u, o9⟩ := s
      simp only at hJ ⊢
      refine Wk.iload (i := 4) (q := 7) (by decide +kernel) rfl rfl ?_
      refine Wk.aload_n (k := 0) (q := 8) (by decide +kernel) rfl rfl rfl ?_
      refine Wk.getI (z := 1) (q := 11) f_Sear_146 (by decide +kernel) O_1 (by decide) rfl rfl rfl ?_
      refine Wk.icmp_ge (off := (51)) (t := 62) (q := 14) (by decide +kernel) (by decide) rfl (by first | omega | exact bi_rng _) (by first | omega | exact bi_rng _) (fun hc11 => ?_) (fun hc11 => ?_)
      · refine Wk.lload_n (k := 2) (q := 63) (by decide +kernel) rfl rfl rfl ?_
        exact Wk.rlP (by decide +kernel) rfl (⟨⟨u, rfl, hJ.cong (fun cx cy _ _ _ _ => ⟨fun q => q.1, fun q => ⟨q, q.1.2.2.2⟩⟩)⟩, rfl, rfl⟩)
      · omega
    · intro y s y0 y1 hJ ih
      obtain ⟨u, o9⟩ := s
      simp only at hJ ⊢
      refine Wk.iload (i := 4) (q := 7) (by decide +kernel) rfl rfl ?_
      refine Wk.aload_n (k := 0) (q := 8) (by decide +kernel) rfl rfl rfl ?_
      refine Wk.getI (z := 1) (q := 11) f_Sear_146 (by decide +kernel) O_1 (by decide) rfl rfl rfl ?_
      refine Wk.icmp_ge (off := (51)) (t := 62) (q := 14) (by decide +kernel) (by decide) rfl (by first | omega | exact bi_rng _) (by first | omega | exact bi_rng _) (fun hc11 => ?_) (fun hc11 => ?_)
      · omega
      · have key2 : Wk xs x_Sear_deepSpots (d + 2) 0 0 17 [some (vr 1), some (vi r), some (vl u), none, some (vi y), some (vi 0)] [] X2 I L (pLB (fun cx cy => inE (I 1 0) (I 1 1) cx cy ∧ r ≤ cwat I cx cy) I L) := by
          refine loopS (σ := Int64) (fun x u => Wk xs x_Sear_deepSpots (d + 2) 0 0 17 [some (vr 1), some (vi r), some (vl u), none, some (vi y), some (vi x)] [] X2 I L (pLB (fun cx cy => inE (I 1 0) (I 1 1) cx cy ∧ r ≤ cwat I cx cy) I L)) (fun x u => LB u (fun cx cy => (inE (I 1 0) (I 1 1) cx cy ∧ r ≤ cwat I cx cy) ∧ (cy < y ∨ (cy = y ∧ cx < x)))) (I 1 0) 0 u (by omega) (hJ.cong (fun cx cy _ _ _ _ => ⟨fun q => ⟨q.1, Or.inl q.2⟩, fun q => ⟨q.1, by omega⟩⟩)) ?_ ?_
          · intro u hM
            refine Wk.iload (i := 5) (q := 19) (by decide +kernel) rfl rfl ?_
            refine Wk.aload_n (k := 0) (q := 20) (by decide +kernel) rfl rfl rfl ?_
            refine Wk.getI (z := 0) (q := 23) f_Sear_149 (by decide +kernel) O_1 (by decide) rfl rfl rfl ?_
            refine Wk.icmp_ge (off := (33)) (t := 56) (q := 26) (by decide +kernel) (by decide) rfl (by first | omega | exact bi_rng _) (by first | omega | exact bi_rng _) (fun hc23 => ?_) (fun hc23 => ?_)
            · refine Wk.iinc (i := 4) (n := 1) (q := 59) (by decide +kernel) rfl (by decide) rfl (fun _ h => h) rfl ?_
              refine Wk.goto (off := (-54)) (q := 5) (by decide +kernel) (by decide) ?_
              exact ih (u, _) (hM.cong (fun cx cy _ _ _ _ => ⟨fun q => ⟨q.1, by omega⟩, fun q => ⟨q.1, by have := q.1.1.2.1; omega⟩⟩))
            · omega
          · intro x u x0 x1 hM ih2
            have hw := cwat_range hC x y
            refine Wk.iload (i := 5) (q := 19) (by decide +kernel) rfl rfl ?_
            refine Wk.aload_n (k := 0) (q := 20) (by decide +kernel) rfl rfl rfl ?_
            refine Wk.getI (z := 0) (q := 23) f_Sear_149 (by decide +kernel) O_1 (by decide) rfl rfl rfl ?_
            refine Wk.icmp_ge (off := (33)) (t := 56) (q := 26) (by decide +kernel) (by decide) rfl (by first | omega | exact bi_rng _) (by first | omega | exact bi_rng _) (fun hc23 => ?_) (fun hc23 => ?_)
            · omega
            · refine Wk.aload_n (k := 0) (q := 27) (by decide +kernel) rfl rfl rfl ?_
              refine Wk.iload (i := 5) (q := 29) (by decide +kernel) rfl rfl ?_
              refine Wk.iload (i := 4) (q := 31) (by decide +kernel) rfl rfl ?_
              refine Wk.cVi (q := 34) l_Sear_152 m_Harb_water (by decide +kernel) (fun _ h => h) O_1 rfl (Nat.le_of_ble_eq_true rfl) (Nat.le_of_ble_eq_true rfl) rfl (c_Harb_water (by omega) (by omega) hC) rfl ?_
              refine Wk.iload_n (k := 1) (q := 35) (by decide +kernel) rfl rfl rfl ?_
              refine Wk.icmp_lt (off := (15)) (t := 50) (q := 38) (by decide +kernel) (by decide) rfl (by first | omega | exact bi_rng _) (by first | omega | exact bi_rng _) (fun hc35 => ?_) (fun hc35 => ?_)
              · refine Wk.iinc (i := 5) (n := 1) (q := 53) (by decide +kernel) rfl (by decide) rfl (fun _ h => h) rfl ?_
                refine Wk.goto (off := (-36)) (q := 17) (by decide +kernel) (by decide) ?_
                first
                  | (refine ih2 _ (hM.cong (fun cx cy _ _ _ _ => ⟨fun q => ⟨q.1, by omega⟩, fun q => ⟨q.1, ?_⟩⟩))
                     rcases Classical.em (cx = x ∧ cy = y) with e | e
                     · exfalso
                       have := q.1.2
                       rw [e.1, e.2] at this
                       omega
                     · omega)
                  | (refine ih2 _ ((hM.or (LB.one (x := x) (y := y) (by omega) (by omega))).cong (fun cx cy _ _ _ _ => ⟨fun q => ?_, fun q => ?_⟩))
                     · rcases q with q | ⟨rfl, rfl⟩
                       · exact ⟨q.1, by omega⟩
                       · exact ⟨⟨⟨by omega, by omega, by omega, by omega⟩, by omega⟩, by omega⟩
                     · rcases Classical.em (cx = x ∧ cy = y) with e | e
                       · exact Or.inr e
                       · exact Or.inl ⟨q.1, by omega⟩)
              · refine Wk.lload_n (k := 2) (q := 39) (by decide +kernel) rfl rfl rfl ?_
                refine Wk.lconst (n := 1) (v := 1) (q := 40) (by decide +kernel) rfl rfl ?_
                refine Wk.iload (i := 5) (q := 42) (by decide +kernel) rfl rfl ?_
                refine Wk.iload (i := 4) (q := 44) (by decide +kernel) rfl rfl ?_
                refine Wk.cNi (q := 47) ln_Sear_93 m_Sw_spotAt (by decide +kernel) (fun _ h => h) (Nat.le_of_ble_eq_true rfl) (Nat.le_of_ble_eq_true rfl) rfl (c_Sw_spotAt) rfl ?_
                refine Wk.lshl (q := 48) (by decide +kernel) rfl ?_
                refine Wk.lor (q := 49) (by decide +kernel) rfl ?_
                refine Wk.lstore_n (k := 2) (q := 50) (by decide +kernel) rfl (by decide) rfl (fun _ h => h) rfl ?_
                refine Wk.iinc (i := 5) (n := 1) (q := 53) (by decide +kernel) rfl (by decide) rfl (fun _ h => h) rfl ?_
                refine Wk.goto (off := (-36)) (q := 17) (by decide +kernel) (by decide) ?_
                first
                  | (refine ih2 _ (hM.cong (fun cx cy _ _ _ _ => ⟨fun q => ⟨q.1, by omega⟩, fun q => ⟨q.1, ?_⟩⟩))
                     rcases Classical.em (cx = x ∧ cy = y) with e | e
                     · exfalso
                       have := q.1.2
                       rw [e.1, e.2] at this
                       omega
                     · omega)
                  | (refine ih2 _ ((hM.or (LB.one (x := x) (y := y) (by omega) (by omega))).cong (fun cx cy _ _ _ _ => ⟨fun q => ?_, fun q => ?_⟩))
                     · rcases q with q | ⟨rfl, rfl⟩
                       · exact ⟨q.1, by omega⟩
                       · exact ⟨⟨⟨by omega, by omega, by omega, by omega⟩, by omega⟩, by omega⟩
                     · rcases Classical.em (cx = x ∧ cy = y) with e | e
                       · exact Or.inr e
                       · exact Or.inl ⟨q.1, by omega⟩)
        refine Wk.iconst (n := 0) (q := 15) (by decide +kernel) rfl ?_
        refine Wk.istore (i := 5) (q := 17) (by decide +kernel) (by decide) rfl (fun _ h => h) rfl ?_
        exact key2
  refine Wk.lconst (n := 0) (v := 0) (q := 1) (by decide +kernel) rfl rfl ?_
  refine Wk.lstore_n (k := 2) (q := 2) (by decide +kernel) rfl (by decide) rfl (fun _ h => h) rfl ?_
  refine Wk.iconst (n := 0) (q := 3) (by decide +kernel) rfl ?_
  refine Wk.istore (i := 4) (q := 5) (by decide +kernel) (by decide) rfl (fun _ h => h) rfl ?_
  exact key none
end SEA
