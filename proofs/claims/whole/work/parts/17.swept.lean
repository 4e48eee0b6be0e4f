/-! CELLS SWEPT, as bits of a long: bit y * 8 + x -/
/-- the spots of a long are just those with P -/
def LB (v : Int64) (P : Int → Int → Prop) : Prop := ∀ s, 0 ≤ s → s < 64 → (bl v s = true ↔ P (s % 8) (s / 8))
theorem LB.zero {P : Int → Int → Prop} (h : ∀ x y, ¬ P x y) : LB 0 P := fun s _ _ => by rw [bl_0]; exact ⟨fun z => (by cases z), fun z => absurd z (h _ _)⟩
theorem LB.cong {v : Int64} {P Q : Int → Int → Prop} (h : LB v P) (e : ∀ x y, 0 ≤ x → x < 8 → 0 ≤ y → y < 8 → (P x y ↔ Q x y)) : LB v Q := fun s h0 h1 => (h s h0 h1).trans (e _ _ (by omega) (by omega) (by omega) (by omega))
theorem LB.or {v u : Int64} {P Q : Int → Int → Prop} (h : LB v P) (g : LB u Q) : LB (v ||| u) (fun x y => P x y ∨ Q x y) := fun s h0 h1 => by
  rw [bl_or, Bool.or_eq_true, h s h0 h1, g s h0 h1]
theorem LB.and {v u : Int64} {P Q : Int → Int → Prop} (h : LB v P) (g : LB u Q) : LB (v &&& u) (fun x y => P x y ∧ Q x y) := fun s h0 h1 => by
  rw [bl_and, Bool.and_eq_true, h s h0 h1, g s h0 h1]
theorem LB.not {v : Int64} {P : Int → Int → Prop} (h : LB v P) : LB (v ^^^ (-1)) (fun x y => ¬ P x y) := fun s h0 h1 => by
  have := h s h0 h1
  rw [bl_not v h0 h1, Bool.not_eq_true']
  constructor
  · intro e q
    rw [this.mpr q] at e
    cases e
  · intro q
    cases hb : bl v s with
    | false => rfl
    | true => exact absurd (this.mp hb) q
theorem LB.one {x y : Int} (hx : 0 ≤ x ∧ x < 8) (hy : 0 ≤ y ∧ y < 8) : LB ((1 : Int64) <<< ((nZ (y * 8 + x)).toInt64 &&& 63)) (fun cx cy => cx = x ∧ cy = y) := fun s h0 h1 => by
  rw [bl_one (by omega) (by omega) h0 h1, decide_eq_true_eq]
  omega
theorem LB.at {v : Int64} {P : Int → Int → Prop} (h : LB v P) {x y : Int} (hx : 0 ≤ x ∧ x < 8) (hy : 0 ≤ y ∧ y < 8) : bl v (y * 8 + x) = true ↔ P x y := by
  rw [h _ (by omega) (by omega)]
  have e1 : (y * 8 + x) % 8 = x := by omega
  have e2 : (y * 8 + x) / 8 = y := by omega
  rw [e1, e2]
theorem LB.uniq {v u : Int64} {P : Int → Int → Prop} (h : LB v P) (g : LB u P) : v = u := bl_ext fun i h0 h1 => Bool.eq_iff_iff.mpr ((h i h0 h1).trans (g i h0 h1).symm)
theorem LB.zero_iff {v : Int64} {P : Int → Int → Prop} (h : LB v P) : v = 0 ↔ ∀ x y, 0 ≤ x → x < 8 → 0 ≤ y → y < 8 → ¬ P x y := by
  rw [bl_zero]
  constructor
  · intro z x y a b c e q
    have := (h.at ⟨a, b⟩ ⟨c, e⟩).mpr q
    rw [z _ (by omega) (by omega)] at this
    cases this
  · intro z i h0 h1
    cases hb : bl v i with
    | false => rfl
    | true => exact absurd ((h i h0 h1).mp hb) (z _ _ (by omega) (by omega) (by omega) (by omega))
/-- an end: a long of which P holds, the memory as it was -/
def pLB (P : Int → Int → Prop) (I : IM) (L : LM) : Option AV → LY → IM → LM → Prop := p2 fun v I' L' => (∃ u : Int64, v = some (vl u) ∧ LB u P) ∧ I' = I ∧ L' = L
section SWJ
variable {xs : RO} {d : Nat} {I : IM} {L : LM}

theorem c_Swing_lainOn {a w : Int} (h0 : 0 ≤ a) (h1 : a < I 1 4) (h2 : 0 ≤ w) (h3 : w < 8) (hC : CW I) : Wk xs x_Swing_lainOn (d + 1) 0 0 0 [some (vr 1), some (vi a), some (vi w), none, none, none, none, none, none] [] X2 I L (pLB (fun cx cy => inE (I 1 0) (I 1 1) cx cy ∧ cLO I a w cx cy) I L) := by
  obtain ⟨⟨hW, hH, -, -, hA, -, -⟩, hS, hP⟩ := id hC
  obtain ⟨hdr, hch, hsd⟩ := hS a (Or.inl ⟨h0, h1⟩)
  obtain ⟨hx, hy⟩ := hP a h0 h1
  have m1 := mulB hch (windX_r w)
  have m2 := mulB hch (windY_r w)
  have key : ∀ o8 : Option AV, Wk xs x_Swing_lainOn (d + 1) 0 0 22 [some (vr 1), some (vi a), some (vi w), some (vl 0), none, some (vi (I 6 a + I 4 a * windX w)), some (vi (I 7 a + I 4 a * windY w)), some (vi (I 7 a + I 4 a * windY w)), o8] [] X2 I L (pLB (fun cx cy => inE (I 1 0) (I 1 1) cx cy ∧ cLO I a w cx cy) I L) := by
    intro o8
    refine loopS (σ := Int64 × Option AV) (fun y s => Wk xs x_Swing_lainOn (d + 1) 0 0 22 [some (vr 1), some (vi a), some (vi w), some (vl s.1), none, some (vi (I 6 a + I 4 a * windX w)), some (vi (I 7 a + I 4 a * windY w)), some (vi y), s.2] [] X2 I L (pLB (fun cx cy => inE (I 1 0) (I 1 1) cx cy ∧ cLO I a w cx cy) I L)) (fun y s => LB s.1 (fun cx cy => inE (I 1 0) (I 1 1) cx cy ∧ ((I 6 a + I 4 a * windX w) ≤ cx ∧ cx < (I 6 a + I 4 a * windX w) + I 5 a) ∧ (I 7 a + I 4 a * windY w) ≤ cy ∧ cy < y)) ((I 7 a + I 4 a * windY w) + I 5 a) (I 7 a + I 4 a * windY w) (0, o8) (by omega) (LB.zero (fun x y q => by omega)) ?_ ?_
    · intro s hJ
      obtain ⟨u, o9⟩ := s
      simp only at hJ ⊢
      refine Wk.iload (i := 7) (q := 24) (by decide +kernel) rfl rfl ?_
      refine Wk.iload (i := 6) (q := 26) (by decide +kernel) rfl rfl ?_
      refine Wk.aload_n (k := 0) (q := 27) (by decide +kernel) rfl rfl rfl ?_
      refine Wk.getR (r := 5) (q := 30) f_Swing_36 (by decide +kernel) O_1 (by decide) rfl rfl rfl ?_
      refine Wk.iload_n (k := 1) (q := 31) (by decide +kernel) rfl rfl rfl ?_
      refine Wk.iaload (q := 32) (by decide +kernel) A_5 (by first | omega | exact bi_rng _) (by first | omega | exact bi_rng _) rfl ?_
      refine Wk.iadd (q := 33) (by decide +kernel) rfl ?_
      refine Wk.icmp_ge (off := (56)) (t := 89) (q := 36) (by decide +kernel) (by decide) rfl (by first | omega | exact bi_rng _) (by first | omega | exact bi_rng _) (fun hc33 => ?_) (fun hc33 => ?_)
      · refine Wk.lload_n (k := 3) (q := 90) (by decide +kernel) rfl rfl rfl ?_
        exact Wk.rlP (by decide +kernel) rfl (⟨⟨u, rfl, hJ.cong (fun cx cy _ _ _ _ => by unfold cLO LO; exact Iff.rfl)⟩, rfl, rfl⟩)
      · omega
    · intro y s y0 y1 hJ ih
      obtain ⟨u, o9⟩ := s
      simp only at hJ ⊢
      refine Wk.iload (i := 7) (q := 24) (by decide +kernel) rfl rfl ?_
      refine Wk.iload (i := 6) (q := 26) (by decide +kernel) rfl rfl ?_
      refine Wk.aload_n (k := 0) (q := 27) (by decide +kernel) rfl rfl rfl ?_
      refine Wk.getR (r := 5) (q := 30) f_Swing_36 (by decide +kernel) O_1 (by decide) rfl rfl rfl ?_
      refine Wk.iload_n (k := 1) (q := 31) (by decide +kernel) rfl rfl rfl ?_
      refine Wk.iaload (q := 32) (by decide +kernel) A_5 (by first | omega | exact bi_rng _) (by first | omega | exact bi_rng _) rfl ?_
      refine Wk.iadd (q := 33) (by decide +kernel) rfl ?_
      refine Wk.icmp_ge (off := (56)) (t := 89) (q := 36) (by decide +kernel) (by decide) rfl (by first | omega | exact bi_rng _) (by first | omega | exact bi_rng _) (fun hc33 => ?_) (fun hc33 => ?_)
      · omega
      · have key2 : Wk xs x_Swing_lainOn (d + 1) 0 0 40 [some (vr 1), some (vi a), some (vi w), some (vl u), none, some (vi (I 6 a + I 4 a * windX w)), some (vi (I 7 a + I 4 a * windY w)), some (vi y), some (vi (I 6 a + I 4 a * windX w))] [] X2 I L (pLB (fun cx cy => inE (I 1 0) (I 1 1) cx cy ∧ cLO I a w cx cy) I L) := by
          refine loopS (σ := Int64) (fun x u => Wk xs x_Swing_lainOn (d + 1) 0 0 40 [some (vr 1), some (vi a), some (vi w), some (vl u), none, some (vi (I 6 a + I 4 a * windX w)), some (vi (I 7 a + I 4 a * windY w)), some (vi y), some (vi x)] [] X2 I L (pLB (fun cx cy => inE (I 1 0) (I 1 1) cx cy ∧ cLO I a w cx cy) I L)) (fun x u => LB u (fun cx cy => inE (I 1 0) (I 1 1) cx cy ∧ ((((I 6 a + I 4 a * windX w) ≤ cx ∧ cx < (I 6 a + I 4 a * windX w) + I 5 a) ∧ (I 7 a + I 4 a * windY w) ≤ cy ∧ cy < y) ∨ (((I 6 a + I 4 a * windX w) ≤ cx ∧ cx < x) ∧ cy = y)))) ((I 6 a + I 4 a * windX w) + I 5 a) (I 6 a + I 4 a * windX w) u (by omega) (hJ.cong (fun cx cy _ _ _ _ => by constructor <;> intro q <;> refine ⟨q.1, ?_⟩ <;> omega)) ?_ ?_
          · intro u hM
            refine Wk.iload (i := 8) (q := 42) (by decide +kernel) rfl rfl ?_
            refine Wk.iload (i := 5) (q := 44) (by decide +kernel) rfl rfl ?_
            refine Wk.aload_n (k := 0) (q := 45) (by decide +kernel) rfl rfl rfl ?_
            refine Wk.getR (r := 5) (q := 48) f_Swing_36 (by decide +kernel) O_1 (by decide) rfl rfl rfl ?_
            refine Wk.iload_n (k := 1) (q := 49) (by decide +kernel) rfl rfl rfl ?_
            refine Wk.iaload (q := 50) (by decide +kernel) A_5 (by first | omega | exact bi_rng _) (by first | omega | exact bi_rng _) rfl ?_
            refine Wk.iadd (q := 51) (by decide +kernel) rfl ?_
            refine Wk.icmp_ge (off := (32)) (t := 83) (q := 54) (by decide +kernel) (by decide) rfl (by first | omega | exact bi_rng _) (by first | omega | exact bi_rng _) (fun hc51 => ?_) (fun hc51 => ?_)
            · refine Wk.iinc (i := 7) (n := 1) (q := 86) (by decide +kernel) rfl (by decide) rfl (fun _ h => h) rfl ?_
              refine Wk.goto (off := (-64)) (q := 22) (by decide +kernel) (by decide) ?_
              exact ih (u, _) (hM.cong (fun cx cy _ _ _ _ => by constructor <;> intro q <;> refine ⟨q.1, ?_⟩ <;> omega))
            · omega
          · intro x u x0 x1 hM ih2
            refine Wk.iload (i := 8) (q := 42) (by decide +kernel) rfl rfl ?_
            refine Wk.iload (i := 5) (q := 44) (by decide +kernel) rfl rfl ?_
            refine Wk.aload_n (k := 0) (q := 45) (by decide +kernel) rfl rfl rfl ?_
            refine Wk.getR (r := 5) (q := 48) f_Swing_36 (by decide +kernel) O_1 (by decide) rfl rfl rfl ?_
            refine Wk.iload_n (k := 1) (q := 49) (by decide +kernel) rfl rfl rfl ?_
            refine Wk.iaload (q := 50) (by decide +kernel) A_5 (by first | omega | exact bi_rng _) (by first | omega | exact bi_rng _) rfl ?_
            refine Wk.iadd (q := 51) (by decide +kernel) rfl ?_
            refine Wk.icmp_ge (off := (32)) (t := 83) (q := 54) (by decide +kernel) (by decide) rfl (by first | omega | exact bi_rng _) (by first | omega | exact bi_rng _) (fun hc51 => ?_) (fun hc51 => ?_)
            · omega
            · refine Wk.aload_n (k := 0) (q := 55) (by decide +kernel) rfl rfl rfl ?_
              refine Wk.iload (i := 8) (q := 57) (by decide +kernel) rfl rfl ?_
              refine Wk.iload (i := 7) (q := 59) (by decide +kernel) rfl rfl ?_
              refine Wk.cVi (q := 62) l_Swing_51 m_Harb_hasCell (by decide +kernel) (fun _ h => h) O_1 rfl (Nat.le_of_ble_eq_true rfl) (Nat.le_of_ble_eq_true rfl) rfl (c_Harb_hasCell (by omega) (by omega) (by omega) (by omega)) rfl ?_
              refine Wk.ifB_eq (off := (15)) (t := 77) (q := 65) (by decide +kernel) (by decide) rfl (fun hc62 => ?_) (fun hc62 => ?_)
              · refine Wk.iinc (i := 8) (n := 1) (q := 80) (by decide +kernel) rfl (by decide) rfl (fun _ h => h) rfl ?_
                refine Wk.goto (off := (-40)) (q := 40) (by decide +kernel) (by decide) ?_
                first
                  | (refine ih2 _ (hM.cong (fun cx cy _ _ _ _ => ⟨fun q => ⟨q.1, by omega⟩, fun q => ⟨q.1, ?_⟩⟩))
                     have q1 := q.1
                     unfold inE at q1
                     omega)
                  | (refine ih2 _ ((hM.or (LB.one (x := x) (y := y) (by omega) (by omega))).cong (fun cx cy _ _ _ _ => ⟨fun q => ?_, fun q => ?_⟩))
                     · rcases q with q | ⟨rfl, rfl⟩
                       · exact ⟨q.1, by omega⟩
                       · exact ⟨hc62, by omega⟩
                     · rcases Classical.em (cx = x ∧ cy = y) with e | e
                       · exact Or.inr e
                       · exact Or.inl ⟨q.1, by omega⟩)
              · refine Wk.lload_n (k := 3) (q := 66) (by decide +kernel) rfl rfl rfl ?_
                refine Wk.lconst (n := 1) (v := 1) (q := 67) (by decide +kernel) rfl rfl ?_
                refine Wk.iload (i := 8) (q := 69) (by decide +kernel) rfl rfl ?_
                refine Wk.iload (i := 7) (q := 71) (by decide +kernel) rfl rfl ?_
                refine Wk.cNi (q := 74) ln_Swing_54 m_Sw_spotAt (by decide +kernel) (fun _ h => h) (Nat.le_of_ble_eq_true rfl) (Nat.le_of_ble_eq_true rfl) rfl (c_Sw_spotAt) rfl ?_
                refine Wk.lshl (q := 75) (by decide +kernel) rfl ?_
                refine Wk.lor (q := 76) (by decide +kernel) rfl ?_
                refine Wk.lstore_n (k := 3) (q := 77) (by decide +kernel) rfl (by decide) rfl (fun _ h => h) rfl ?_
                refine Wk.iinc (i := 8) (n := 1) (q := 80) (by decide +kernel) rfl (by decide) rfl (fun _ h => h) rfl ?_
                refine Wk.goto (off := (-40)) (q := 40) (by decide +kernel) (by decide) ?_
                first
                  | (refine ih2 _ (hM.cong (fun cx cy _ _ _ _ => ⟨fun q => ⟨q.1, by omega⟩, fun q => ⟨q.1, ?_⟩⟩))
                     have q1 := q.1
                     unfold inE at q1
                     omega)
                  | (refine ih2 _ ((hM.or (LB.one (x := x) (y := y) (by omega) (by omega))).cong (fun cx cy _ _ _ _ => ⟨fun q => ?_, fun q => ?_⟩))
                     · rcases q with q | ⟨rfl, rfl⟩
                       · exact ⟨q.1, by omega⟩
                       · exact ⟨hc62, by omega⟩
                     · rcases Classical.em (cx = x ∧ cy = y) with e | e
                       · exact Or.inr e
                       · exact Or.inl ⟨q.1, by omega⟩)
        refine Wk.iload (i := 5) (q := 38) (by decide +kernel) rfl rfl ?_
        refine Wk.istore (i := 8) (q := 40) (by decide +kernel) (by decide) rfl (fun _ h => h) rfl ?_
        exact key2
  refine Wk.lconst (n := 0) (v := 0) (q := 1) (by decide +kernel) rfl rfl ?_
  refine Wk.lstore_n (k := 3) (q := 2) (by decide +kernel) rfl (by decide) rfl (fun _ h => h) rfl ?_
  refine Wk.aload_n (k := 0) (q := 3) (by decide +kernel) rfl rfl rfl ?_
  refine Wk.iload_n (k := 1) (q := 4) (by decide +kernel) rfl rfl rfl ?_
  refine Wk.iload_n (k := 2) (q := 5) (by decide +kernel) rfl rfl rfl ?_
  refine Wk.cSi (q := 8) l_Swing_27 m_Swing_firstX (by decide +kernel) (fun _ h => h) (Nat.le_of_ble_eq_true rfl) (Nat.le_of_ble_eq_true rfl) rfl (c_Swing_firstX (by omega) (by omega) (by omega) (by omega)) rfl ?_
  refine Wk.istore (i := 5) (q := 10) (by decide +kernel) (by decide) rfl (fun _ h => h) rfl ?_
  refine Wk.aload_n (k := 0) (q := 11) (by decide +kernel) rfl rfl rfl ?_
  refine Wk.iload_n (k := 1) (q := 12) (by decide +kernel) rfl rfl rfl ?_
  refine Wk.iload_n (k := 2) (q := 13) (by decide +kernel) rfl rfl rfl ?_
  refine Wk.cSi (q := 16) l_Swing_33 m_Swing_firstY (by decide +kernel) (fun _ h => h) (Nat.le_of_ble_eq_true rfl) (Nat.le_of_ble_eq_true rfl) rfl (c_Swing_firstY (by omega) (by omega) (by omega) (by omega)) rfl ?_
  refine Wk.istore (i := 6) (q := 18) (by decide +kernel) (by decide) rfl (fun _ h => h) rfl ?_
  refine Wk.iload (i := 6) (q := 20) (by decide +kernel) rfl rfl ?_
  refine Wk.istore (i := 7) (q := 22) (by decide +kernel) (by decide) rfl (fun _ h => h) rfl ?_
  exact key none
theorem c_Swing_sweptBy {a : Int} (h0 : 0 ≤ a) (h1 : a < I 1 4) (hC : CW I) : Wk xs x_Swing_sweptBy (d + 2) 0 0 0 [some (vr 1), some (vi a), none, none, none] [] X2 I L (pLB (fun cx cy => inE (I 1 0) (I 1 1) cx cy ∧ cSW I (I 1 3) a cx cy) I L) := by
  have hF : 1 ≤ I 1 3 ∧ I 1 3 ≤ 255 := hC.1.2.2.2.1
  have key : Wk xs x_Swing_sweptBy (d + 2) 0 0 5 [some (vr 1), some (vi a), some (vl 0), none, some (vi 0)] [] X2 I L (pLB (fun cx cy => inE (I 1 0) (I 1 1) cx cy ∧ cSW I (I 1 3) a cx cy) I L) := by
    refine loopS (σ := Int64) (fun k u => Wk xs x_Swing_sweptBy (d + 2) 0 0 5 [some (vr 1), some (vi a), some (vl u), none, some (vi k)] [] X2 I L (pLB (fun cx cy => inE (I 1 0) (I 1 1) cx cy ∧ cSW I (I 1 3) a cx cy) I L)) (fun k u => LB u (fun cx cy => inE (I 1 0) (I 1 1) cx cy ∧ ∃ w, (0 ≤ w ∧ w < k) ∧ bt (I 1 3) w = true ∧ cLO I a w cx cy)) 8 0 0 (by omega) (LB.zero (fun x y q => by obtain ⟨-, w, q, -⟩ := q; omega)) ?_ ?_
    · intro u hJ
      refine Wk.iload (i := 4) (q := 7) (by decide +kernel) rfl rfl ?_
      refine Wk.bipush (n := 8) (q := 9) (by decide +kernel) (by decide +kernel) rfl ?_
      refine Wk.icmp_ge (off := (31)) (t := 40) (q := 12) (by decide +kernel) (by decide) rfl (by first | omega | exact bi_rng _) (by first | omega | exact bi_rng _) (fun hc9 => ?_) (fun hc9 => ?_)
      · refine Wk.lload_n (k := 2) (q := 41) (by decide +kernel) rfl rfl rfl ?_
        exact Wk.rlP (by decide +kernel) rfl (⟨⟨u, rfl, hJ.cong (fun cx cy _ _ _ _ => ⟨fun ⟨q, w, q1, q2, q3⟩ => ⟨q, w, q1.1, q1.2, q2, q3⟩, fun ⟨q, w, q1, q2, q3, q4⟩ => ⟨q, w, ⟨q1, q2⟩, q3, q4⟩⟩)⟩, rfl, rfl⟩)
      · omega
    · intro k u k0 k1 hJ ih
      refine Wk.iload (i := 4) (q := 7) (by decide +kernel) rfl rfl ?_
      refine Wk.bipush (n := 8) (q := 9) (by decide +kernel) (by decide +kernel) rfl ?_
      refine Wk.icmp_ge (off := (31)) (t := 40) (q := 12) (by decide +kernel) (by decide) rfl (by first | omega | exact bi_rng _) (by first | omega | exact bi_rng _) (fun hc9 => ?_) (fun hc9 => ?_)
      · omega
      · refine Wk.aload_n (k := 0) (q := 13) (by decide +kernel) rfl rfl rfl ?_
        refine Wk.getI (z := 3) (q := 16) f_Swing_39 (by decide +kernel) O_1 (by decide) rfl rfl rfl ?_
        refine Wk.iload (i := 4) (q := 18) (by decide +kernel) rfl rfl ?_
        refine Wk.cSi (q := 21) l_Swing_43 m_Swing_blows (by decide +kernel) (fun _ h => h) (Nat.le_of_ble_eq_true rfl) (Nat.le_of_ble_eq_true rfl) rfl (c_Swing_blows (by omega) (by omega) (by omega) (by omega)) rfl ?_
        refine Wk.ifB_eq (off := (13)) (t := 34) (q := 24) (by decide +kernel) (by decide) rfl (fun hc21 => ?_) (fun hc21 => ?_)
        · refine Wk.iinc (i := 4) (n := 1) (q := 37) (by decide +kernel) rfl (by decide) rfl (fun _ h => h) rfl ?_
          refine Wk.goto (off := (-32)) (q := 5) (by decide +kernel) (by decide) ?_
          first
            | (refine ih _ (hJ.cong (fun cx cy _ _ _ _ => ⟨fun ⟨q, w, q1, q2⟩ => ⟨q, w, by omega, q2⟩, fun ⟨q, w, q1, q2, q3⟩ => ⟨q, w, ⟨q1.1, ?_⟩, q2, q3⟩⟩))
               rcases Classical.em (w = k) with e | e
               · rw [e] at q2
                 exact absurd q2 hc21
               · omega)
            | (refine ih _ ((hJ.or hz).cong (fun cx cy _ _ _ _ => ⟨fun q => q.elim (fun ⟨q, w, q1, q2⟩ => ⟨q, w, by omega, q2⟩) (fun q => ⟨q.1, k, by omega, hc21, q.2⟩), fun ⟨q, w, q1, q2, q3⟩ => ?_⟩))
               rcases Classical.em (w = k) with e | e
               · rw [e] at q3
                 exact Or.inr ⟨q, q3⟩
               · exact Or.inl ⟨q, w, by omega, q2, q3⟩)
        · refine Wk.lload_n (k := 2) (q := 25) (by decide +kernel) rfl rfl rfl ?_
          refine Wk.aload_n (k := 0) (q := 26) (by decide +kernel) rfl rfl rfl ?_
          refine Wk.iload_n (k := 1) (q := 27) (by decide +kernel) rfl rfl rfl ?_
          refine Wk.iload (i := 4) (q := 29) (by decide +kernel) rfl rfl ?_
          refine Wk.cS (q := 32) l_Swing_47 m_Swing_lainOn (by decide +kernel) (fun _ h => h) (Nat.le_of_ble_eq_true rfl) (Nat.le_of_ble_eq_true rfl) rfl (c_Swing_lainOn h0 h1 k0 k1 hC) rfl (fun v I' L' hP => ?_)
          obtain ⟨⟨z, rfl, hz⟩, rfl, rfl⟩ := hP
          refine Wk.lor (q := 33) (by decide +kernel) rfl ?_
          refine Wk.lstore_n (k := 2) (q := 34) (by decide +kernel) rfl (by decide) rfl (fun _ h => h) rfl ?_
          refine Wk.iinc (i := 4) (n := 1) (q := 37) (by decide +kernel) rfl (by decide) rfl (fun _ h => h) rfl ?_
          refine Wk.goto (off := (-32)) (q := 5) (by decide +kernel) (by decide) ?_
          first
            | (refine ih _ (hJ.cong (fun cx cy _ _ _ _ => ⟨fun ⟨q, w, q1, q2⟩ => ⟨q, w, by omega, q2⟩, fun ⟨q, w, q1, q2, q3⟩ => ⟨q, w, ⟨q1.1, ?_⟩, q2, q3⟩⟩))
               rcases Classical.em (w = k) with e | e
               · rw [e] at q2
                 exact absurd q2 hc21
               · omega)
            | (refine ih _ ((hJ.or hz).cong (fun cx cy _ _ _ _ => ⟨fun q => q.elim (fun ⟨q, w, q1, q2⟩ => ⟨q, w, by omega, q2⟩) (fun q => ⟨q.1, k, by omega, hc21, q.2⟩), fun ⟨q, w, q1, q2, q3⟩ => ?_⟩))
               rcases Classical.em (w = k) with e | e
               · rw [e] at q3
                 exact Or.inr ⟨q, q3⟩
               · exact Or.inl ⟨q, w, by omega, q2, q3⟩)
  refine Wk.lconst (n := 0) (v := 0) (q := 1) (by decide +kernel) rfl rfl ?_
  refine Wk.lstore_n (k := 2) (q := 2) (by decide +kernel) rfl (by decide) rfl (fun _ h => h) rfl ?_
  refine Wk.iconst (n := 0) (q := 3) (by decide +kernel) rfl ?_
  refine Wk.istore (i := 4) (q := 5) (by decide +kernel) (by decide) rfl (fun _ h => h) rfl ?_
  exact key
theorem c_Swing_sweptByAll (hC : CW I) : Wk xs x_Swing_sweptByAll (d + 3) 0 0 0 [some (vr 1), none, none, none] [] X2 I L (pLB (fun cx cy => inE (I 1 0) (I 1 1) cx cy ∧ ∃ a, (0 ≤ a ∧ a < I 1 4) ∧ cSW I (I 1 3) a cx cy) I L) := by
  have hA : 0 ≤ I 1 4 ∧ I 1 4 ≤ 5 := hC.1.2.2.2.2.1
  have key : Wk xs x_Swing_sweptByAll (d + 3) 0 0 4 [some (vr 1), some (vl 0), none, some (vi 0)] [] X2 I L (pLB (fun cx cy => inE (I 1 0) (I 1 1) cx cy ∧ ∃ a, (0 ≤ a ∧ a < I 1 4) ∧ cSW I (I 1 3) a cx cy) I L) := by
    refine loopS (σ := Int64) (fun k u => Wk xs x_Swing_sweptByAll (d + 3) 0 0 4 [some (vr 1), some (vl u), none, some (vi k)] [] X2 I L (pLB (fun cx cy => inE (I 1 0) (I 1 1) cx cy ∧ ∃ a, (0 ≤ a ∧ a < I 1 4) ∧ cSW I (I 1 3) a cx cy) I L)) (fun k u => LB u (fun cx cy => inE (I 1 0) (I 1 1) cx cy ∧ ∃ a, (0 ≤ a ∧ a < k) ∧ cSW I (I 1 3) a cx cy)) (I 1 4) 0 0 (by omega) (LB.zero (fun x y q => by obtain ⟨-, w, q, -⟩ := q; omega)) ?_ ?_
    · intro u hJ
      refine Wk.iload_n (k := 3) (q := 5) (by decide +kernel) rfl rfl rfl ?_
      refine Wk.aload_n (k := 0) (q := 6) (by decide +kernel) rfl rfl rfl ?_
      refine Wk.getI (z := 4) (q := 9) f_Swing_58 (by decide +kernel) O_1 (by decide) rfl rfl rfl ?_
      refine Wk.icmp_ge (off := (17)) (t := 26) (q := 12) (by decide +kernel) (by decide) rfl (by first | omega | exact bi_rng _) (by first | omega | exact bi_rng _) (fun hc9 => ?_) (fun hc9 => ?_)
      · refine Wk.lload_n (k := 1) (q := 27) (by decide +kernel) rfl rfl rfl ?_
        exact Wk.rlP (by decide +kernel) rfl (⟨⟨u, rfl, hJ⟩, rfl, rfl⟩)
      · omega
    · intro k u k0 k1 hJ ih
      refine Wk.iload_n (k := 3) (q := 5) (by decide +kernel) rfl rfl rfl ?_
      refine Wk.aload_n (k := 0) (q := 6) (by decide +kernel) rfl rfl rfl ?_
      refine Wk.getI (z := 4) (q := 9) f_Swing_58 (by decide +kernel) O_1 (by decide) rfl rfl rfl ?_
      refine Wk.icmp_ge (off := (17)) (t := 26) (q := 12) (by decide +kernel) (by decide) rfl (by first | omega | exact bi_rng _) (by first | omega | exact bi_rng _) (fun hc9 => ?_) (fun hc9 => ?_)
      · omega
      · refine Wk.lload_n (k := 1) (q := 13) (by decide +kernel) rfl rfl rfl ?_
        refine Wk.aload_n (k := 0) (q := 14) (by decide +kernel) rfl rfl rfl ?_
        refine Wk.iload_n (k := 3) (q := 15) (by decide +kernel) rfl rfl rfl ?_
        refine Wk.cS (q := 18) l_Swing_61 m_Swing_sweptBy (by decide +kernel) (fun _ h => h) (Nat.le_of_ble_eq_true rfl) (Nat.le_of_ble_eq_true rfl) rfl (c_Swing_sweptBy k0 k1 hC) rfl (fun v I' L' hP => ?_)
        obtain ⟨⟨z, rfl, hz⟩, rfl, rfl⟩ := hP
        refine Wk.lor (q := 19) (by decide +kernel) rfl ?_
        refine Wk.lstore_n (k := 1) (q := 20) (by decide +kernel) rfl (by decide) rfl (fun _ h => h) rfl ?_
        refine Wk.iinc (i := 3) (n := 1) (q := 23) (by decide +kernel) rfl (by decide) rfl (fun _ h => h) rfl ?_
        refine Wk.goto (off := (-19)) (q := 4) (by decide +kernel) (by decide) ?_
        refine ih _ ((hJ.or hz).cong (fun cx cy _ _ _ _ => ⟨fun q => q.elim (fun ⟨q, w, q1, q2⟩ => ⟨q, w, by omega, q2⟩) (fun q => ⟨q.1, k, by omega, q.2⟩), fun ⟨q, w, q1, q3⟩ => ?_⟩))
        rcases Classical.em (w = k) with e | e
        · rw [e] at q3
          exact Or.inr ⟨q, q3⟩
        · exact Or.inl ⟨q, w, by omega, q3⟩
  refine Wk.lconst (n := 0) (v := 0) (q := 1) (by decide +kernel) rfl rfl ?_
  refine Wk.lstore_n (k := 1) (q := 2) (by decide +kernel) rfl (by decide) rfl (fun _ h => h) rfl ?_
  refine Wk.iconst (n := 0) (q := 3) (by decide +kernel) rfl ?_
  refine Wk.istore_n (k := 3) (q := 4) (by decide +kernel) rfl (by decide) rfl (fun _ h => h) rfl ?_
  exact key
theorem c_Swing_sweepersOf {x y : Int} (hi : inE (I 1 0) (I 1 1) x y) (hC : CW I) : Wk xs x_Swing_sweepersOf (d + 3) 0 0 0 [some (vr 1), some (vi (y * 8 + x)), none, none] [] X2 I L (pI (so (fun a => cSW I (I 1 3) a x y) (I 1 4).toNat) I L) := by
  obtain ⟨hW, hH, -, -, hA, -, -⟩ := id hC.1
  have hi2 := hi
  unfold inE at hi2
  have key : Wk xs x_Swing_sweepersOf (d + 3) 0 0 4 [some (vr 1), some (vi (y * 8 + x)), some (vi (so (fun a => cSW I (I 1 3) a x y) (0 : Int).toNat)), some (vi 0)] [] X2 I L (pI (so (fun a => cSW I (I 1 3) a x y) (I 1 4).toNat) I L) := by
    refine loopI (fun k => Wk xs x_Swing_sweepersOf (d + 3) 0 0 4 [some (vr 1), some (vi (y * 8 + x)), some (vi (so (fun a => cSW I (I 1 3) a x y) k.toNat)), some (vi k)] [] X2 I L (pI (so (fun a => cSW I (I 1 3) a x y) (I 1 4).toNat) I L)) (I 1 4) 0 (by omega) ?_ ?_
    · refine Wk.iload_n (k := 3) (q := 5) (by decide +kernel) rfl rfl rfl ?_
      refine Wk.aload_n (k := 0) (q := 6) (by decide +kernel) rfl rfl rfl ?_
      refine Wk.getI (z := 4) (q := 9) f_Swing_58 (by decide +kernel) O_1 (by decide) rfl rfl rfl ?_
      refine Wk.icmp_ge (off := (27)) (t := 36) (q := 12) (by decide +kernel) (by decide) rfl (by first | omega | exact bi_rng _) (by first | omega | exact bi_rng _) (fun hc9 => ?_) (fun hc9 => ?_)
      · refine Wk.iload_n (k := 2) (q := 37) (by decide +kernel) rfl rfl rfl ?_
        exact Wk.rI (by decide +kernel) rfl (rfl)
      · omega
    · intro k k0 k1 ih
      have hs := so_range (fun a => cSW I (I 1 3) a x y) k.toNat
      rw [so_step _ k0] at ih
      refine Wk.iload_n (k := 3) (q := 5) (by decide +kernel) rfl rfl rfl ?_
      refine Wk.aload_n (k := 0) (q := 6) (by decide +kernel) rfl rfl rfl ?_
      refine Wk.getI (z := 4) (q := 9) f_Swing_58 (by decide +kernel) O_1 (by decide) rfl rfl rfl ?_
      refine Wk.icmp_ge (off := (27)) (t := 36) (q := 12) (by decide +kernel) (by decide) rfl (by first | omega | exact bi_rng _) (by first | omega | exact bi_rng _) (fun hc9 => ?_) (fun hc9 => ?_)
      · omega
      · refine Wk.aload_n (k := 0) (q := 13) (by decide +kernel) rfl rfl rfl ?_
        refine Wk.iload_n (k := 3) (q := 14) (by decide +kernel) rfl rfl rfl ?_
        refine Wk.cS (q := 17) l_Swing_61 m_Swing_sweptBy (by decide +kernel) (fun _ h => h) (Nat.le_of_ble_eq_true rfl) (Nat.le_of_ble_eq_true rfl) rfl (c_Swing_sweptBy k0 k1 hC) rfl (fun v I' L' hP => ?_)
        obtain ⟨⟨z, rfl, hz⟩, rfl, rfl⟩ := hP
        have hb := hz.at (x := x) (y := y) (by omega) (by omega)
        refine Wk.iload_n (k := 1) (q := 18) (by decide +kernel) rfl rfl rfl ?_
        refine Wk.cNi (q := 21) ln_Swing_65 m_Sw_holds (by decide +kernel) (fun _ h => h) (Nat.le_of_ble_eq_true rfl) (Nat.le_of_ble_eq_true rfl) rfl (c_Sw_holds (by omega) (by omega)) rfl ?_
        refine Wk.ifB_eq (off := (9)) (t := 30) (q := 24) (by decide +kernel) (by decide) rfl (fun hc21 => ?_) (fun hc21 => ?_)
        · refine Wk.iinc (i := 3) (n := 1) (q := 33) (by decide +kernel) rfl (by decide) rfl (fun _ h => h) rfl ?_
          refine Wk.goto (off := (-29)) (q := 4) (by decide +kernel) (by decide) ?_
          first
            | (rw [or_above hs.1 hs.2 k0 (by omega)]
               rw [bi_t (hb.mp hc21).2, Int.one_mul] at ih
               exact ih)
            | (rw [bi_f (fun q => hc21 (hb.mpr ⟨hi, q⟩)), Int.zero_mul, Int.add_zero] at ih
               exact ih)
        · refine Wk.iload_n (k := 2) (q := 25) (by decide +kernel) rfl rfl rfl ?_
          refine Wk.iconst (n := 1) (q := 26) (by decide +kernel) rfl ?_
          refine Wk.iload_n (k := 3) (q := 27) (by decide +kernel) rfl rfl rfl ?_
          refine Wk.ishl (q := 28) (by decide +kernel) rfl ?_
          refine Wk.ior (q := 29) (by decide +kernel) rfl ?_
          refine Wk.istore_n (k := 2) (q := 30) (by decide +kernel) rfl (by decide) rfl (fun _ h => h) rfl ?_
          refine Wk.iinc (i := 3) (n := 1) (q := 33) (by decide +kernel) rfl (by decide) rfl (fun _ h => h) rfl ?_
          refine Wk.goto (off := (-29)) (q := 4) (by decide +kernel) (by decide) ?_
          first
            | (rw [or_above hs.1 hs.2 k0 (by omega)]
               rw [bi_t (hb.mp hc21).2, Int.one_mul] at ih
               exact ih)
            | (rw [bi_f (fun q => hc21 (hb.mpr ⟨hi, q⟩)), Int.zero_mul, Int.add_zero] at ih
               exact ih)
  refine Wk.iconst (n := 0) (q := 1) (by decide +kernel) rfl ?_
  refine Wk.istore_n (k := 2) (q := 2) (by decide +kernel) rfl (by decide) rfl (fun _ h => h) rfl ?_
  refine Wk.iconst (n := 0) (q := 3) (by decide +kernel) rfl ?_
  refine Wk.istore_n (k := 3) (q := 4) (by decide +kernel) rfl (by decide) rfl (fun _ h => h) rfl ?_
  exact key
end SWJ
