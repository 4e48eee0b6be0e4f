/-! LOOKING at a slot; what is left for it; places -/
theorem lup_eq (L : LM) (a : Nat) (z : Int) (v : Int64) : lup L a z v a z = v := by simp [lup]
theorem lup_ne {L : LM} {a c : Nat} {z b : Int} {v : Int64} (h : ¬ (c = a ∧ b = z)) : lup L a z v c b = L c b := by simp only [lup]; rw [if_neg h]
abbrev cLeft (I : IM) (s mv x y : Int) : Prop := cGood I s x y ∧ ∀ a, 0 ≤ a → a < I 1 4 → bt mv a = false → ¬ CL (I 1 3) (I 4 a) (I 5 a) (I 6 a) (I 7 a) (I 4 s) (I 5 s) x y
abbrev cPlace (I : IM) (k x y : Int) : Prop := cGood I (5 + k) x y ∧ ∀ a, 0 ≤ a → a < I 1 4 → ¬ CL (I 1 3) (I 4 a) (I 5 a) (I 6 a) (I 7 a) (I 4 (5 + k)) (I 5 (5 + k)) x y
theorem bt_0 (a : Int) : bt 0 a = false := by unfold bt; simp
/-- an int, the ints as they were -/
def pIx (z : Int) (I : IM) : Option AV → LY → IM → LM → Prop := p2 fun v I' _ => v = some (vi z) ∧ I' = I
section SEC
variable {xs : RO} {d : Nat} {I : IM} {L : LM}

theorem c_Sear_look {s : Int} (hs : Slot1 I s) (hC : CW I) : Wk xs x_Sear_look (d + 4) 0 0 0 [some (vr 122), some (vr 1), some (vi s), none] [] X2 I L (p2 fun v I' L' => v = none ∧ I' = I ∧ LookOK I L' s ∧ LookF L L' s) := by
  obtain ⟨hW, hH, -, hF, hA, hB, -⟩ := id hC.1
  have hs8 : 0 ≤ s ∧ s < 8 := by unfold Slot1 at hs; omega
  have key : ∀ g : Int64, LB g (cGood I s) → Wk xs x_Sear_look (d + 4) 0 0 13 [some (vr 122), some (vr 1), some (vi s), some (vi 0)] [] X2 I (lup L 125 s g) (p2 fun v I' L' => v = none ∧ I' = I ∧ LookOK I L' s ∧ LookF L L' s) := by
    intro g hg
    refine loopS (σ := LM) (fun k L2 => Wk xs x_Sear_look (d + 4) 0 0 13 [some (vr 122), some (vr 1), some (vi s), some (vi k)] [] X2 I L2 (p2 fun v I' L' => v = none ∧ I' = I ∧ LookOK I L' s ∧ LookF L L' s)) (fun k L2 => LB (L2 125 s) (cGood I s) ∧ (∀ f, 0 ≤ f → f < k → Slot1 I f → ¬ f = s → LB (L2 126 (f * 8 + s)) (cBad I f s)) ∧ LookF L L2 s) 8 0 (lup L 125 s g) (by omega) ⟨by rw [lup_eq]; exact hg, fun f f0 f1 => by omega, fun c b h1 h2 => lup_ne (fun z => h1 z.1), fun b hb => lup_ne (fun z => hb z.2), fun f b _ _ _ _ _ => lup_ne (fun z => by omega)⟩ ?_ ?_
    · intro L2 hJ
      refine Wk.iload_n (k := 3) (q := 14) (by decide +kernel) rfl rfl rfl ?_
      refine Wk.bipush (n := 8) (q := 16) (by decide +kernel) (by decide +kernel) rfl ?_
      refine Wk.icmp_ge (off := (39)) (t := 55) (q := 19) (by decide +kernel) (by decide) rfl (by first | omega | exact bi_rng _) (by first | omega | exact bi_rng _) (fun hc16 => ?_) (fun hc16 => ?_)
      · exact Wk.rvP (by decide +kernel) rfl (⟨rfl, rfl, ⟨hJ.1, hJ.2.1⟩, hJ.2.2⟩)
      · omega
    · intro k L2 k0 k1 hJ ih
      obtain ⟨hJ1, hJ2, hJ3⟩ := hJ
      refine Wk.iload_n (k := 3) (q := 14) (by decide +kernel) rfl rfl rfl ?_
      refine Wk.bipush (n := 8) (q := 16) (by decide +kernel) (by decide +kernel) rfl ?_
      refine Wk.icmp_ge (off := (39)) (t := 55) (q := 19) (by decide +kernel) (by decide) rfl (by first | omega | exact bi_rng _) (by first | omega | exact bi_rng _) (fun hc16 => ?_) (fun hc16 => ?_)
      · omega
      · refine Wk.iload_n (k := 3) (q := 20) (by decide +kernel) rfl rfl rfl ?_
        refine Wk.iload_n (k := 2) (q := 21) (by decide +kernel) rfl rfl rfl ?_
        refine Wk.icmp_eq (off := (28)) (t := 49) (q := 24) (by decide +kernel) (by decide) rfl (by first | omega | exact bi_rng _) (by first | omega | exact bi_rng _) (fun hc21 => ?_) (fun hc21 => ?_)
        · refine Wk.iinc (i := 3) (n := 1) (q := 52) (by decide +kernel) rfl (by decide) rfl (fun _ h => h) rfl ?_
          refine Wk.goto (off := (-39)) (q := 13) (by decide +kernel) (by decide) ?_
          first
            | exact ih _ ⟨hJ1, ext1 hJ2 (fun q1 q2 => by first | exact absurd hc21 q2 | exact absurd q1 hc29), hJ3⟩
            | exact ih _ ⟨by rw [lup_ne (by omega)]; exact hJ1, ext1 (fun f f0 f1 f2 f3 => by rw [lup_ne (by omega)]; exact hJ2 f f0 f1 f2 f3) (fun _ _ => by rw [lup_eq]; exact hz), fun c b h1 h2 => by rw [lup_ne (fun z => h2 z.1)]; exact hJ3.1 c b h1 h2, fun b hb => by rw [lup_ne (by omega)]; exact hJ3.2.1 b hb, fun f b f0 f1 b0 b1 hb => by rw [lup_ne (by omega)]; exact hJ3.2.2 f b f0 f1 b0 b1 hb⟩
        · refine Wk.aload_n (k := 1) (q := 25) (by decide +kernel) rfl rfl rfl ?_
          refine Wk.iload_n (k := 3) (q := 26) (by decide +kernel) rfl rfl rfl ?_
          refine Wk.cVi (q := 29) l_Sear_110 m_Harb_hasSlot (by decide +kernel) (fun _ h => h) O_1 rfl (Nat.le_of_ble_eq_true rfl) (Nat.le_of_ble_eq_true rfl) rfl (c_Harb_hasSlot (by omega) hA hB) rfl ?_
          refine Wk.ifB_eq (off := (20)) (t := 49) (q := 32) (by decide +kernel) (by decide) rfl (fun hc29 => ?_) (fun hc29 => ?_)
          · refine Wk.iinc (i := 3) (n := 1) (q := 52) (by decide +kernel) rfl (by decide) rfl (fun _ h => h) rfl ?_
            refine Wk.goto (off := (-39)) (q := 13) (by decide +kernel) (by decide) ?_
            first
              | exact ih _ ⟨hJ1, ext1 hJ2 (fun q1 q2 => by first | exact absurd hc21 q2 | exact absurd q1 hc29), hJ3⟩
              | exact ih _ ⟨by rw [lup_ne (by omega)]; exact hJ1, ext1 (fun f f0 f1 f2 f3 => by rw [lup_ne (by omega)]; exact hJ2 f f0 f1 f2 f3) (fun _ _ => by rw [lup_eq]; exact hz), fun c b h1 h2 => by rw [lup_ne (fun z => h2 z.1)]; exact hJ3.1 c b h1 h2, fun b hb => by rw [lup_ne (by omega)]; exact hJ3.2.1 b hb, fun f b f0 f1 b0 b1 hb => by rw [lup_ne (by omega)]; exact hJ3.2.2 f b f0 f1 b0 b1 hb⟩
          · refine Wk.aload_n (k := 0) (q := 33) (by decide +kernel) rfl rfl rfl ?_
            refine Wk.getR (r := 126) (q := 36) f_Sear_22 (by decide +kernel) O_122 (by decide) rfl rfl rfl ?_
            refine Wk.iload_n (k := 3) (q := 37) (by decide +kernel) rfl rfl rfl ?_
            refine Wk.bipush (n := 8) (q := 39) (by decide +kernel) (by decide +kernel) rfl ?_
            refine Wk.imul (q := 40) (by decide +kernel) rfl ?_
            refine Wk.iload_n (k := 2) (q := 41) (by decide +kernel) rfl rfl rfl ?_
            refine Wk.iadd (q := 42) (by decide +kernel) rfl ?_
            refine Wk.aload_n (k := 1) (q := 43) (by decide +kernel) rfl rfl rfl ?_
            refine Wk.iload_n (k := 3) (q := 44) (by decide +kernel) rfl rfl rfl ?_
            refine Wk.iload_n (k := 2) (q := 45) (by decide +kernel) rfl rfl rfl ?_
            refine Wk.cS (q := 48) l_Sear_113 m_Sear_badSpots (by decide +kernel) (fun _ h => h) (Nat.le_of_ble_eq_true rfl) (Nat.le_of_ble_eq_true rfl) rfl (c_Sear_badSpots hc29 hs hC) rfl (fun v I' L' hP => ?_)
            obtain ⟨⟨z, rfl, hz⟩, rfl, rfl⟩ := hP
            refine Wk.lastore (q := 49) (by decide +kernel) A_126 (by first | omega | exact bi_rng _) (by first | omega | exact bi_rng _) rfl ?_
            refine Wk.iinc (i := 3) (n := 1) (q := 52) (by decide +kernel) rfl (by decide) rfl (fun _ h => h) rfl ?_
            refine Wk.goto (off := (-39)) (q := 13) (by decide +kernel) (by decide) ?_
            first
              | exact ih _ ⟨hJ1, ext1 hJ2 (fun q1 q2 => by first | exact absurd hc21 q2 | exact absurd q1 hc29), hJ3⟩
              | exact ih _ ⟨by rw [lup_ne (by omega)]; exact hJ1, ext1 (fun f f0 f1 f2 f3 => by rw [lup_ne (by omega)]; exact hJ2 f f0 f1 f2 f3) (fun _ _ => by rw [lup_eq]; exact hz), fun c b h1 h2 => by rw [lup_ne (fun z => h2 z.1)]; exact hJ3.1 c b h1 h2, fun b hb => by rw [lup_ne (by omega)]; exact hJ3.2.1 b hb, fun f b f0 f1 b0 b1 hb => by rw [lup_ne (by omega)]; exact hJ3.2.2 f b f0 f1 b0 b1 hb⟩
  refine Wk.aload_n (k := 0) (q := 1) (by decide +kernel) rfl rfl rfl ?_
  refine Wk.getR (r := 125) (q := 4) f_Sear_18 (by decide +kernel) O_122 (by decide) rfl rfl rfl ?_
  refine Wk.iload_n (k := 2) (q := 5) (by decide +kernel) rfl rfl rfl ?_
  refine Wk.aload_n (k := 1) (q := 6) (by decide +kernel) rfl rfl rfl ?_
  refine Wk.iload_n (k := 2) (q := 7) (by decide +kernel) rfl rfl rfl ?_
  refine Wk.cS (q := 10) l_Sear_107 m_Sear_goodSpots (by decide +kernel) (fun _ h => h) (Nat.le_of_ble_eq_true rfl) (Nat.le_of_ble_eq_true rfl) rfl (c_Sear_goodSpots hs hC) rfl (fun v I' L' hP => ?_)
  obtain ⟨⟨g, rfl, hg⟩, rfl, rfl⟩ := hP
  refine Wk.lastore (q := 11) (by decide +kernel) A_125 (by first | omega | exact bi_rng _) (by first | omega | exact bi_rng _) rfl ?_
  refine Wk.iconst (n := 0) (q := 12) (by decide +kernel) rfl ?_
  refine Wk.istore_n (k := 3) (q := 13) (by decide +kernel) rfl (by decide) rfl (fun _ h => h) rfl ?_
  exact key g hg
theorem c_Sear_leftFor {s mv : Int} (hs : Slot1 I s) (hC : CW I) (hm : 0 ≤ mv ∧ mv < 32) (hL : LookOK I L s) (hne : ∀ a, 0 ≤ a → a < I 1 4 → bt mv a = false → ¬ a = s) : Wk xs x_Sear_leftFor (d + 2) 0 0 0 [some (vr 122), some (vr 1), some (vi s), some (vi mv), none, none, none] [] X2 I L (pLB (cLeft I s mv) I L) := by
  obtain ⟨hW, hH, -, hF, hA, hB, -⟩ := id hC.1
  have hs8 : 0 ≤ s ∧ s < 8 := by unfold Slot1 at hs; omega
  obtain ⟨hdr, hch, hsd⟩ := hC.2.1 s hs
  have key : Wk xs x_Sear_leftFor (d + 2) 0 0 11 [some (vr 122), some (vr 1), some (vi s), some (vi mv), some (vl (L 125 s)), none, some (vi 0)] [] X2 I L (pLB (cLeft I s mv) I L) := by
    refine loopS (σ := Int64) (fun k u => Wk xs x_Sear_leftFor (d + 2) 0 0 11 [some (vr 122), some (vr 1), some (vi s), some (vi mv), some (vl u), none, some (vi k)] [] X2 I L (pLB (cLeft I s mv) I L)) (fun k u => LB u (fun x y => cGood I s x y ∧ ∀ a, 0 ≤ a → a < k → bt mv a = false → ¬ CL (I 1 3) (I 4 a) (I 5 a) (I 6 a) (I 7 a) (I 4 s) (I 5 s) x y)) (I 1 4) 0 (L 125 s) (by omega) (hL.1.cong (fun x y _ _ _ _ => ⟨fun q => ⟨q, fun a a0 a1 => by omega⟩, fun q => q.1⟩)) ?_ ?_
    · intro u hJ
      refine Wk.iload (i := 6) (q := 13) (by decide +kernel) rfl rfl ?_
      refine Wk.aload_n (k := 1) (q := 14) (by decide +kernel) rfl rfl rfl ?_
      refine Wk.getI (z := 4) (q := 17) f_Sear_60 (by decide +kernel) O_1 (by decide) rfl rfl rfl ?_
      refine Wk.icmp_ge (off := (51)) (t := 68) (q := 20) (by decide +kernel) (by decide) rfl (by first | omega | exact bi_rng _) (by first | omega | exact bi_rng _) (fun hc17 => ?_) (fun hc17 => ?_)
      · refine Wk.lload (i := 4) (q := 70) (by decide +kernel) rfl rfl ?_
        exact Wk.rlP (by decide +kernel) rfl (⟨⟨u, rfl, hJ⟩, rfl, rfl⟩)
      · omega
    · intro k u k0 k1 hJ ih
      obtain ⟨hx, hy⟩ := hC.2.2 k k0 k1
      obtain ⟨-, hch2, hsd2⟩ := hC.2.1 k (Or.inl ⟨k0, k1⟩)
      refine Wk.iload (i := 6) (q := 13) (by decide +kernel) rfl rfl ?_
      refine Wk.aload_n (k := 1) (q := 14) (by decide +kernel) rfl rfl rfl ?_
      refine Wk.getI (z := 4) (q := 17) f_Sear_60 (by decide +kernel) O_1 (by decide) rfl rfl rfl ?_
      refine Wk.icmp_ge (off := (51)) (t := 68) (q := 20) (by decide +kernel) (by decide) rfl (by first | omega | exact bi_rng _) (by first | omega | exact bi_rng _) (fun hc17 => ?_) (fun hc17 => ?_)
      · omega
      · refine Wk.iload_n (k := 3) (q := 21) (by decide +kernel) rfl rfl rfl ?_
        refine Wk.iload (i := 6) (q := 23) (by decide +kernel) rfl rfl ?_
        refine Wk.ishr (q := 24) (by decide +kernel) rfl ?_
        refine Wk.iconst (n := 1) (q := 25) (by decide +kernel) rfl ?_
        refine Wk.iand (q := 26) (by decide +kernel) rfl ?_
        rw [bit_int hm.1 (by omega) k0 (by omega)]
        refine Wk.if_ne (off := (36)) (t := 62) (q := 29) (by decide +kernel) (by decide) rfl (by first | omega | exact bi_rng _) (fun hc26 => ?_) (fun hc26 => ?_)
        · refine Wk.iinc (i := 6) (n := 1) (q := 65) (by decide +kernel) rfl (by decide) rfl (fun _ h => h) rfl ?_
          refine Wk.goto (off := (-54)) (q := 11) (by decide +kernel) (by decide) ?_
          first
            | exact ih _ (hJ.cong (fun x y _ _ _ _ => ⟨fun q => ⟨q.1, ext1 q.2 (fun z => absurd (bi_f (by rw [z]; decide)) hc26)⟩, fun q => ⟨q.1, fun a a0 a1 => q.2 a a0 (by omega)⟩⟩))
            | exact ih _ ((hJ.and hz.not).cong (fun x y _ _ _ _ => ⟨fun q => ⟨q.1.1, ext1 q.1.2 (fun _ c => q.2 ((cl_shift hch2 hsd2 hch hsd).mpr c))⟩, fun q => ⟨⟨q.1, fun a a0 a1 => q.2 a a0 (by omega)⟩, fun c => q.2 k k0 (by omega) hb ((cl_shift hch2 hsd2 hch hsd).mp c)⟩⟩))
        · have hb : bt mv k = false := by simpa using bi_eq0.mp hc26
          refine Wk.lload (i := 4) (q := 31) (by decide +kernel) rfl rfl ?_
          refine Wk.aload_n (k := 0) (q := 32) (by decide +kernel) rfl rfl rfl ?_
          refine Wk.iload (i := 6) (q := 34) (by decide +kernel) rfl rfl ?_
          refine Wk.iload_n (k := 2) (q := 35) (by decide +kernel) rfl rfl rfl ?_
          refine Wk.aload_n (k := 1) (q := 36) (by decide +kernel) rfl rfl rfl ?_
          refine Wk.getR (r := 6) (q := 39) f_Sear_87 (by decide +kernel) O_1 (by decide) rfl rfl rfl ?_
          refine Wk.iload (i := 6) (q := 41) (by decide +kernel) rfl rfl ?_
          refine Wk.iaload (q := 42) (by decide +kernel) A_6 (by first | omega | exact bi_rng _) (by first | omega | exact bi_rng _) rfl ?_
          refine Wk.aload_n (k := 1) (q := 43) (by decide +kernel) rfl rfl rfl ?_
          refine Wk.getR (r := 7) (q := 46) f_Sear_90 (by decide +kernel) O_1 (by decide) rfl rfl rfl ?_
          refine Wk.iload (i := 6) (q := 48) (by decide +kernel) rfl rfl ?_
          refine Wk.iaload (q := 49) (by decide +kernel) A_7 (by first | omega | exact bi_rng _) (by first | omega | exact bi_rng _) rfl ?_
          refine Wk.cNi (q := 52) ln_Sear_93 m_Sw_spotAt (by decide +kernel) (fun _ h => h) (Nat.le_of_ble_eq_true rfl) (Nat.le_of_ble_eq_true rfl) rfl (c_Sw_spotAt) rfl ?_
          refine Wk.cV (q := 55) l_Sear_81 m_Sear_around (by decide +kernel) (fun _ h => h) O_122 rfl (Nat.le_of_ble_eq_true rfl) (Nat.le_of_ble_eq_true rfl) rfl (c_Sear_around (by omega) hs8 (by omega) (hL.2 k k0 (by omega) (Or.inl ⟨k0, k1⟩) (hne k k0 k1 hb))) rfl (fun v I' L' hP => ?_)
          obtain ⟨⟨z, rfl, hz⟩, rfl, rfl⟩ := hP
          rw [show 3 - (I' 7 k * 8 + I' 6 k) % 8 = 3 - I' 6 k by omega, show 3 - (I' 7 k * 8 + I' 6 k) / 8 = 3 - I' 7 k by omega] at hz
          refine Wk.ldc2 (q := 58) k_Sear_85 (by decide +kernel) rfl ?_
          refine Wk.lxor (q := 59) (by decide +kernel) rfl ?_
          refine Wk.land (q := 60) (by decide +kernel) rfl ?_
          refine Wk.lstore (i := 4) (q := 62) (by decide +kernel) (by decide) rfl (fun _ h => h) rfl ?_
          refine Wk.iinc (i := 6) (n := 1) (q := 65) (by decide +kernel) rfl (by decide) rfl (fun _ h => h) rfl ?_
          refine Wk.goto (off := (-54)) (q := 11) (by decide +kernel) (by decide) ?_
          first
            | exact ih _ (hJ.cong (fun x y _ _ _ _ => ⟨fun q => ⟨q.1, ext1 q.2 (fun z => absurd (bi_f (by rw [z]; decide)) hc26)⟩, fun q => ⟨q.1, fun a a0 a1 => q.2 a a0 (by omega)⟩⟩))
            | exact ih _ ((hJ.and hz.not).cong (fun x y _ _ _ _ => ⟨fun q => ⟨q.1.1, ext1 q.1.2 (fun _ c => q.2 ((cl_shift hch2 hsd2 hch hsd).mpr c))⟩, fun q => ⟨⟨q.1, fun a a0 a1 => q.2 a a0 (by omega)⟩, fun c => q.2 k k0 (by omega) hb ((cl_shift hch2 hsd2 hch hsd).mp c)⟩⟩))
  refine Wk.aload_n (k := 0) (q := 1) (by decide +kernel) rfl rfl rfl ?_
  refine Wk.getR (r := 125) (q := 4) f_Sear_18 (by decide +kernel) O_122 (by decide) rfl rfl rfl ?_
  refine Wk.iload_n (k := 2) (q := 5) (by decide +kernel) rfl rfl rfl ?_
  refine Wk.laload (q := 6) (by decide +kernel) A_125 (by first | omega | exact bi_rng _) (by first | omega | exact bi_rng _) rfl ?_
  refine Wk.lstore (i := 4) (q := 8) (by decide +kernel) (by decide) rfl (fun _ h => h) rfl ?_
  refine Wk.iconst (n := 0) (q := 9) (by decide +kernel) rfl ?_
  refine Wk.istore (i := 6) (q := 11) (by decide +kernel) (by decide) rfl (fun _ h => h) rfl ?_
  exact key
theorem c_Sear_placesFor {k : Int} (h0 : 0 ≤ k) (h1 : k < I 1 5) (hC : CW I) : Wk xs x_Sear_placesFor (d + 5) 0 0 0 [some (vr 122), some (vr 1), some (vi k), none] [] X2 I L (p2 fun v I' _ => (∃ u : Int64, v = some (vl u) ∧ LB u (cPlace I k)) ∧ I' = I) := by
  have hB := hC.1.2.2.2.2.2.1
  have hA := hC.1.2.2.2.2.1
  have hs : Slot1 I (5 + k) := Or.inr (by omega)
  refine Wk.iconst (n := 5) (q := 1) (by decide +kernel) rfl ?_
  refine Wk.iload_n (k := 2) (q := 2) (by decide +kernel) rfl rfl rfl ?_
  refine Wk.iadd (q := 3) (by decide +kernel) rfl ?_
  refine Wk.istore_n (k := 3) (q := 4) (by decide +kernel) rfl (by decide) rfl (fun _ h => h) rfl ?_
  refine Wk.aload_n (k := 0) (q := 5) (by decide +kernel) rfl rfl rfl ?_
  refine Wk.aload_n (k := 1) (q := 6) (by decide +kernel) rfl rfl rfl ?_
  refine Wk.iload_n (k := 3) (q := 7) (by decide +kernel) rfl rfl rfl ?_
  refine Wk.cV (q := 10) l_Sear_28 m_Sear_look (by decide +kernel) (fun _ h => h) O_122 rfl (Nat.le_of_ble_eq_true rfl) (Nat.le_of_ble_eq_true rfl) rfl (c_Sear_look hs hC) rfl (fun v I' L' hP => ?_)
  obtain ⟨rfl, rfl, hK, -⟩ := hP
  refine Wk.aload_n (k := 0) (q := 11) (by decide +kernel) rfl rfl rfl ?_
  refine Wk.aload_n (k := 1) (q := 12) (by decide +kernel) rfl rfl rfl ?_
  refine Wk.iload_n (k := 3) (q := 13) (by decide +kernel) rfl rfl rfl ?_
  refine Wk.iconst (n := 0) (q := 14) (by decide +kernel) rfl ?_
  refine Wk.cV (q := 17) l_Sear_32 m_Sear_leftFor (by decide +kernel) (fun _ h => h) O_122 rfl (Nat.le_of_ble_eq_true rfl) (Nat.le_of_ble_eq_true rfl) rfl (c_Sear_leftFor hs hC (by omega) hK (fun a a0 a1 _ => by omega)) rfl (fun v I2 L2 hP => ?_)
  obtain ⟨⟨z, rfl, hz⟩, rfl, rfl⟩ := hP
  exact Wk.rlP (by decide +kernel) rfl (⟨⟨z, rfl, hz.cong (fun x y _ _ _ _ => ⟨fun q => ⟨q.1, fun a a0 a1 => q.2 a a0 a1 (bt_0 a)⟩, fun q => ⟨q.1, fun a a0 a1 _ => q.2 a a0 a1⟩⟩)⟩, rfl⟩)
theorem c_Sear_waitersFor {x y : Int} (hi : inE (I 1 0) (I 1 1) x y) (hC : CW I) : Wk xs x_Sear_waitersFor (d + 6) 0 0 0 [some (vr 122), some (vr 1), some (vi (y * 8 + x)), none, none] [] X2 I L (pIx (so (fun k => cPlace I k x y) (I 1 5).toNat) I) := by
  obtain ⟨hW, hH, -, hF, hA, hB, -⟩ := id hC.1
  have hi2 := hi
  unfold inE at hi2
  have key : Wk xs x_Sear_waitersFor (d + 6) 0 0 5 [some (vr 122), some (vr 1), some (vi (y * 8 + x)), some (vi (so (fun k => cPlace I k x y) (0 : Int).toNat)), some (vi 0)] [] X2 I L (pIx (so (fun k => cPlace I k x y) (I 1 5).toNat) I) := by
    refine loopS (σ := LM) (fun k L2 => Wk xs x_Sear_waitersFor (d + 6) 0 0 5 [some (vr 122), some (vr 1), some (vi (y * 8 + x)), some (vi (so (fun k => cPlace I k x y) k.toNat)), some (vi k)] [] X2 I L2 (pIx (so (fun k => cPlace I k x y) (I 1 5).toNat) I)) (fun _ _ => True) (I 1 5) 0 L (by omega) trivial ?_ ?_
    · intro L2 _
      refine Wk.iload (i := 4) (q := 7) (by decide +kernel) rfl rfl ?_
      refine Wk.aload_n (k := 1) (q := 8) (by decide +kernel) rfl rfl rfl ?_
      refine Wk.getI (z := 5) (q := 11) f_Sear_36 (by decide +kernel) O_1 (by decide) rfl rfl rfl ?_
      refine Wk.icmp_ge (off := (30)) (t := 41) (q := 14) (by decide +kernel) (by decide) rfl (by first | omega | exact bi_rng _) (by first | omega | exact bi_rng _) (fun hc11 => ?_) (fun hc11 => ?_)
      · refine Wk.iload_n (k := 3) (q := 42) (by decide +kernel) rfl rfl rfl ?_
        exact Wk.riP (by decide +kernel) rfl (⟨rfl, rfl⟩)
      · omega
    · intro k L2 k0 k1 _ ih
      have hs := so_range (fun k => cPlace I k x y) k.toNat
      rw [so_step _ k0] at ih
      refine Wk.iload (i := 4) (q := 7) (by decide +kernel) rfl rfl ?_
      refine Wk.aload_n (k := 1) (q := 8) (by decide +kernel) rfl rfl rfl ?_
      refine Wk.getI (z := 5) (q := 11) f_Sear_36 (by decide +kernel) O_1 (by decide) rfl rfl rfl ?_
      refine Wk.icmp_ge (off := (30)) (t := 41) (q := 14) (by decide +kernel) (by decide) rfl (by first | omega | exact bi_rng _) (by first | omega | exact bi_rng _) (fun hc11 => ?_) (fun hc11 => ?_)
      · omega
      · refine Wk.aload_n (k := 0) (q := 15) (by decide +kernel) rfl rfl rfl ?_
        refine Wk.aload_n (k := 1) (q := 16) (by decide +kernel) rfl rfl rfl ?_
        refine Wk.iload (i := 4) (q := 18) (by decide +kernel) rfl rfl ?_
        refine Wk.cV (q := 21) l_Sear_42 m_Sear_placesFor (by decide +kernel) (fun _ h => h) O_122 rfl (Nat.le_of_ble_eq_true rfl) (Nat.le_of_ble_eq_true rfl) rfl (c_Sear_placesFor k0 k1 hC) rfl (fun v I' L' hP => ?_)
        obtain ⟨⟨z, rfl, hz⟩, rfl⟩ := hP
        have hb := hz.at (x := x) (y := y) (by omega) (by omega)
        refine Wk.iload_n (k := 2) (q := 22) (by decide +kernel) rfl rfl rfl ?_
        refine Wk.cNi (q := 25) ln_Sear_46 m_Sw_holds (by decide +kernel) (fun _ h => h) (Nat.le_of_ble_eq_true rfl) (Nat.le_of_ble_eq_true rfl) rfl (c_Sw_holds (by omega) (by omega)) rfl ?_
        refine Wk.ifB_eq (off := (10)) (t := 35) (q := 28) (by decide +kernel) (by decide) rfl (fun hc25 => ?_) (fun hc25 => ?_)
        · refine Wk.iinc (i := 4) (n := 1) (q := 38) (by decide +kernel) rfl (by decide) rfl (fun _ h => h) rfl ?_
          refine Wk.goto (off := (-33)) (q := 5) (by decide +kernel) (by decide) ?_
          first
            | (rw [or_above hs.1 hs.2 k0 (by omega)]
               rw [bi_t (hb.mp hc25), Int.one_mul] at ih
               exact ih _ trivial)
            | (rw [bi_f (fun q => hc25 (hb.mpr q)), Int.zero_mul, Int.add_zero] at ih
               exact ih _ trivial)
        · refine Wk.iload_n (k := 3) (q := 29) (by decide +kernel) rfl rfl rfl ?_
          refine Wk.iconst (n := 1) (q := 30) (by decide +kernel) rfl ?_
          refine Wk.iload (i := 4) (q := 32) (by decide +kernel) rfl rfl ?_
          refine Wk.ishl (q := 33) (by decide +kernel) rfl ?_
          refine Wk.ior (q := 34) (by decide +kernel) rfl ?_
          refine Wk.istore_n (k := 3) (q := 35) (by decide +kernel) rfl (by decide) rfl (fun _ h => h) rfl ?_
          refine Wk.iinc (i := 4) (n := 1) (q := 38) (by decide +kernel) rfl (by decide) rfl (fun _ h => h) rfl ?_
          refine Wk.goto (off := (-33)) (q := 5) (by decide +kernel) (by decide) ?_
          first
            | (rw [or_above hs.1 hs.2 k0 (by omega)]
               rw [bi_t (hb.mp hc25), Int.one_mul] at ih
               exact ih _ trivial)
            | (rw [bi_f (fun q => hc25 (hb.mpr q)), Int.zero_mul, Int.add_zero] at ih
               exact ih _ trivial)
  refine Wk.iconst (n := 0) (q := 1) (by decide +kernel) rfl ?_
  refine Wk.istore_n (k := 3) (q := 2) (by decide +kernel) rfl (by decide) rfl (fun _ h => h) rfl ?_
  refine Wk.iconst (n := 0) (q := 3) (by decide +kernel) rfl ?_
  refine Wk.istore (i := 4) (q := 5) (by decide +kernel) (by decide) rfl (fun _ h => h) rfl ?_
  exact key
end SEC
