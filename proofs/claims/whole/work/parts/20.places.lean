/-! PLACES of one ship -/
abbrev cGood (I : IM) (s x y : Int) : Prop := inE (I 1 0) (I 1 1) x y ∧ ML (I 1 0) (I 1 1) (I 1 2) (I 2) (I 1 3) (I 3 s) (I 4 s) (I 5 s) x y
abbrev cBad (I : IM) (f s u v : Int) : Prop := CL (I 1 3) (I 4 f) (I 5 f) 3 3 (I 4 s) (I 5 s) u v
/-- of a slot all is known that is looked at -/
def LookOK (I : IM) (L : LM) (s : Int) : Prop := LB (L 125 s) (cGood I s) ∧ ∀ f, 0 ≤ f → f < 8 → Slot1 I f → ¬ f = s → LB (L 126 (f * 8 + s)) (cBad I f s)
/-- nothing but that has changed -/
def LookF (L L2 : LM) (s : Int) : Prop := (∀ c b, ¬ c = 125 → ¬ c = 126 → L2 c b = L c b) ∧ (∀ b, ¬ b = s → L2 125 b = L 125 b) ∧ ∀ f b, 0 ≤ f → f < 8 → 0 ≤ b → b < 8 → ¬ b = s → L2 126 (f * 8 + b) = L 126 (f * 8 + b)
theorem LookOK.kept {I : IM} {L L2 : LM} {s t : Int} (h : LookOK I L t) (hF : LookF L L2 s) (hst : ¬ t = s) (ht : 0 ≤ t ∧ t < 8) : LookOK I L2 t := by
  refine ⟨by rw [hF.2.1 t hst]; exact h.1, fun f f0 f1 f2 f3 => ?_⟩
  rw [hF.2.2 f t f0 f1 ht.1 ht.2 hst]
  exact h.2 f f0 f1 f2 f3
theorem mulD {c e v : Int} (hc : 0 ≤ c ∧ c ≤ 2) (he : 0 ≤ e ∧ e ≤ 2) (hv : -1 ≤ v ∧ v ≤ 1) : -2 ≤ c * v - e * v ∧ c * v - e * v ≤ 2 := by
  have h : v = -1 ∨ v = 0 ∨ v = 1 := by omega
  rcases h with rfl | rfl | rfl <;> omega
/-- two ships far apart don't clash; a clash is the same elsewhere -/
theorem cl_shift {F ca sa xa ya cs ss x y : Int} (hca : 0 ≤ ca ∧ ca ≤ 2) (hsa : 1 ≤ sa ∧ sa ≤ 2) (hcs : 0 ≤ cs ∧ cs ≤ 2) (hss : 1 ≤ ss ∧ ss ≤ 2) : offP (fun u v => CL F ca sa 3 3 cs ss u v) (3 - xa) (3 - ya) x y ↔ CL F ca sa xa ya cs ss x y := by
  constructor
  · rintro ⟨-, w, h0, h1, h2, h3⟩
    refine ⟨w, h0, h1, h2, ?_⟩
    unfold CLw at *
    omega
  · rintro ⟨w, h0, h1, h2, h3⟩
    have m1 := mulB hca (windX_r w)
    have m2 := mulB hca (windY_r w)
    have m3 := mulB hcs (windX_r w)
    have m4 := mulB hcs (windY_r w)
    have d1 := mulD hca hcs (windX_r w)
    have d2 := mulD hca hcs (windY_r w)
    unfold CLw at h3
    refine ⟨?_, w, h0, h1, h2, ?_⟩
    · unfold in8
      omega
    · unfold CLw
      omega
theorem cl_symm {F c1 s1 x1 y1 c2 s2 x2 y2 : Int} : CL F c1 s1 x1 y1 c2 s2 x2 y2 ↔ CL F c2 s2 x2 y2 c1 s1 x1 y1 := by
  constructor <;> rintro ⟨w, h0, h1, h2, h3⟩ <;> refine ⟨w, h0, h1, h2, ?_⟩ <;> unfold CLw at * <;> omega
section SEB
variable {xs : RO} {d : Nat} {I : IM} {L : LM}

theorem c_Sear_goodSpots {s : Int} (hs : Slot1 I s) (hC : CW I) : Wk xs x_Sear_goodSpots (d + 3) 0 0 0 [some (vr 1), some (vi s), none, none, none, none, none, none, none] [] X2 I L (pLB (cGood I s) I L) := by
  obtain ⟨hW, hH, -, hF, hA, hB, -⟩ := id hC.1
  obtain ⟨hdr, hch, hsd⟩ := hC.2.1 s hs
  have hs8 : 0 ≤ s ∧ s < 8 := by unfold Slot1 at hs; omega
  have key : ∀ (dp g0 : Int64), LB dp (fun cx cy => inE (I 1 0) (I 1 1) cx cy ∧ I 3 s ≤ cwat I cx cy) → LB g0 (fun cx cy => inE (I 1 0) (I 1 1) cx cy ∧ 0 ≤ cwat I cx cy) → Wk xs x_Sear_goodSpots (d + 3) 0 0 21 [some (vr 1), some (vi s), some (vl dp), none, some (vl g0), none, some (vi 0), none, none] [] X2 I L (pLB (cGood I s) I L) := by
    intro dp g0 hdp hg0
    refine loopS (σ := Int64 × Option AV × Option AV) (fun k t => Wk xs x_Sear_goodSpots (d + 3) 0 0 21 [some (vr 1), some (vi s), some (vl dp), none, some (vl t.1), none, some (vi k), t.2.1, t.2.2] [] X2 I L (pLB (cGood I s) I L)) (fun k t => LB t.1 (fun x y => inE (I 1 0) (I 1 1) x y ∧ ∀ w, 0 ≤ w → w < k → bt (I 1 3) w = true → ∀ i j, 0 ≤ i → i < I 5 s → 0 ≤ j → j < I 5 s → offP (fun cx cy => inE (I 1 0) (I 1 1) cx cy ∧ I 3 s ≤ cwat I cx cy) (I 4 s * windX w + i) (I 4 s * windY w + j) x y)) 8 0 (g0, none, none) (by omega) (hg0.cong (fun x y _ _ _ _ => ⟨fun q => ⟨q.1, fun w w0 w1 => by omega⟩, fun q => ⟨q.1, (cwat_range hC.1 x y).1⟩⟩)) ?_ ?_
    · intro t hJ
      obtain ⟨u, o7, o8⟩ := t
      simp only at hJ ⊢
      refine Wk.iload (i := 6) (q := 23) (by decide +kernel) rfl rfl ?_
      refine Wk.bipush (n := 8) (q := 25) (by decide +kernel) (by decide +kernel) rfl ?_
      refine Wk.icmp_ge (off := (70)) (t := 95) (q := 28) (by decide +kernel) (by decide) rfl (by first | omega | exact bi_rng _) (by first | omega | exact bi_rng _) (fun hc25 => ?_) (fun hc25 => ?_)
      · have hfin : LB u (cGood I s) := by
          refine hJ.cong (fun x y _ _ _ _ => ⟨fun q => ⟨q.1, fun w cx cy w0 w1 hb hl => ?_⟩, fun q => ⟨q.1, fun w w0 w1 hb i j i0 i1 j0 j1 => ?_⟩⟩)
          · obtain ⟨⟨l1, l2⟩, l3, l4⟩ := hl
            have hq := q.2 w w0 w1 hb (cx - (x + I 4 s * windX w)) (cy - (y + I 4 s * windY w)) (by omega) (by omega) (by omega) (by omega)
            have e1 : x + (I 4 s * windX w + (cx - (x + I 4 s * windX w))) = cx := by omega
            have e2 : y + (I 4 s * windY w + (cy - (y + I 4 s * windY w))) = cy := by omega
            unfold offP at hq
            rw [e1, e2] at hq
            exact hq.2
          · have hl := q.2 w (x + (I 4 s * windX w + i)) (y + (I 4 s * windY w + j)) w0 w1 hb ⟨⟨by omega, by omega⟩, by omega, by omega⟩
            have hi := hl.1
            unfold inE at hi
            exact ⟨⟨⟨by omega, by omega⟩, by omega, by omega⟩, hl⟩
        refine Wk.lload (i := 4) (q := 97) (by decide +kernel) rfl rfl ?_
        exact Wk.rlP (by decide +kernel) rfl (⟨⟨u, rfl, hfin⟩, rfl, rfl⟩)
      · omega
    · intro k t k0 k1 hJ ih
      obtain ⟨u, o7, o8⟩ := t
      simp only at hJ ⊢
      have m1 := mulB hch (windX_r k)
      have m2 := mulB hch (windY_r k)
      refine Wk.iload (i := 6) (q := 23) (by decide +kernel) rfl rfl ?_
      refine Wk.bipush (n := 8) (q := 25) (by decide +kernel) (by decide +kernel) rfl ?_
      refine Wk.icmp_ge (off := (70)) (t := 95) (q := 28) (by decide +kernel) (by decide) rfl (by first | omega | exact bi_rng _) (by first | omega | exact bi_rng _) (fun hc25 => ?_) (fun hc25 => ?_)
      · omega
      · refine Wk.aload_n (k := 0) (q := 29) (by decide +kernel) rfl rfl rfl ?_
        refine Wk.getI (z := 3) (q := 32) f_Sear_122 (by decide +kernel) O_1 (by decide) rfl rfl rfl ?_
        refine Wk.iload (i := 6) (q := 34) (by decide +kernel) rfl rfl ?_
        refine Wk.cSi (q := 37) l_Sear_125 m_Swing_blows (by decide +kernel) (fun _ h => h) (Nat.le_of_ble_eq_true rfl) (Nat.le_of_ble_eq_true rfl) rfl (c_Swing_blows (by omega) (by omega) (by omega) (by omega)) rfl ?_
        refine Wk.ifB_eq (off := (52)) (t := 89) (q := 40) (by decide +kernel) (by decide) rfl (fun hc37 => ?_) (fun hc37 => ?_)
        · refine Wk.iinc (i := 6) (n := 1) (q := 92) (by decide +kernel) rfl (by decide) rfl (fun _ h => h) rfl ?_
          refine Wk.goto (off := (-71)) (q := 21) (by decide +kernel) (by decide) ?_
          first
            | exact ih (_, _, _) (hJ.cong (fun x y _ _ _ _ => ⟨fun q => ⟨q.1, ext1 q.2 (fun z => absurd z hc37)⟩, fun q => ⟨q.1, fun w w0 w1 => q.2 w w0 (by omega)⟩⟩))
            | exact ih (_, _, _) ((hJ.and hz).cong (fun x y _ _ _ _ => ⟨fun q => ⟨q.1.1, ext1 q.1.2 (fun _ => q.2)⟩, fun q => ⟨⟨q.1, fun w w0 w1 => q.2 w w0 (by omega)⟩, q.2 k k0 (by omega) hc37⟩⟩))
        · refine Wk.aload_n (k := 0) (q := 41) (by decide +kernel) rfl rfl rfl ?_
          refine Wk.getR (r := 4) (q := 44) f_Sear_130 (by decide +kernel) O_1 (by decide) rfl rfl rfl ?_
          refine Wk.iload_n (k := 1) (q := 45) (by decide +kernel) rfl rfl rfl ?_
          refine Wk.iaload (q := 46) (by decide +kernel) A_4 (by first | omega | exact bi_rng _) (by first | omega | exact bi_rng _) rfl ?_
          refine Wk.getsX (q := 49) fs_Sear_133 (by decide +kernel) rfl ?_
          refine Wk.iload (i := 6) (q := 51) (by decide +kernel) rfl rfl ?_
          refine Wk.ialX (q := 52) (by decide +kernel) (by first | omega | exact bi_rng _) (by first | omega | exact bi_rng _) rfl ?_
          refine Wk.imul (q := 53) (by decide +kernel) rfl ?_
          refine Wk.istore (i := 7) (q := 55) (by decide +kernel) (by decide) rfl (fun _ h => h) rfl ?_
          refine Wk.aload_n (k := 0) (q := 56) (by decide +kernel) rfl rfl rfl ?_
          refine Wk.getR (r := 4) (q := 59) f_Sear_130 (by decide +kernel) O_1 (by decide) rfl rfl rfl ?_
          refine Wk.iload_n (k := 1) (q := 60) (by decide +kernel) rfl rfl rfl ?_
          refine Wk.iaload (q := 61) (by decide +kernel) A_4 (by first | omega | exact bi_rng _) (by first | omega | exact bi_rng _) rfl ?_
          refine Wk.getsY (q := 64) fs_Sear_136 (by decide +kernel) rfl ?_
          refine Wk.iload (i := 6) (q := 66) (by decide +kernel) rfl rfl ?_
          refine Wk.ialY (q := 67) (by decide +kernel) (by first | omega | exact bi_rng _) (by first | omega | exact bi_rng _) rfl ?_
          refine Wk.imul (q := 68) (by decide +kernel) rfl ?_
          refine Wk.istore (i := 8) (q := 70) (by decide +kernel) (by decide) rfl (fun _ h => h) rfl ?_
          refine Wk.lload (i := 4) (q := 72) (by decide +kernel) rfl rfl ?_
          refine Wk.lload_n (k := 2) (q := 73) (by decide +kernel) rfl rfl rfl ?_
          refine Wk.iload (i := 7) (q := 75) (by decide +kernel) rfl rfl ?_
          refine Wk.iload (i := 8) (q := 77) (by decide +kernel) rfl rfl ?_
          refine Wk.aload_n (k := 0) (q := 78) (by decide +kernel) rfl rfl rfl ?_
          refine Wk.getR (r := 5) (q := 81) f_Sear_139 (by decide +kernel) O_1 (by decide) rfl rfl rfl ?_
          refine Wk.iload_n (k := 1) (q := 82) (by decide +kernel) rfl rfl rfl ?_
          refine Wk.iaload (q := 83) (by decide +kernel) A_5 (by first | omega | exact bi_rng _) (by first | omega | exact bi_rng _) rfl ?_
          refine Wk.cS (q := 86) l_Sear_142 m_Sear_squareIn (by decide +kernel) (fun _ h => h) (Nat.le_of_ble_eq_true rfl) (Nat.le_of_ble_eq_true rfl) rfl (c_Sear_squareIn hdp (by omega) (by omega) (by omega)) rfl (fun v I' L' hP => ?_)
          obtain ⟨⟨z, rfl, hz⟩, rfl, rfl⟩ := hP
          refine Wk.land (q := 87) (by decide +kernel) rfl ?_
          refine Wk.lstore (i := 4) (q := 89) (by decide +kernel) (by decide) rfl (fun _ h => h) rfl ?_
          refine Wk.iinc (i := 6) (n := 1) (q := 92) (by decide +kernel) rfl (by decide) rfl (fun _ h => h) rfl ?_
          refine Wk.goto (off := (-71)) (q := 21) (by decide +kernel) (by decide) ?_
          first
            | exact ih (_, _, _) (hJ.cong (fun x y _ _ _ _ => ⟨fun q => ⟨q.1, ext1 q.2 (fun z => absurd z hc37)⟩, fun q => ⟨q.1, fun w w0 w1 => q.2 w w0 (by omega)⟩⟩))
            | exact ih (_, _, _) ((hJ.and hz).cong (fun x y _ _ _ _ => ⟨fun q => ⟨q.1.1, ext1 q.1.2 (fun _ => q.2)⟩, fun q => ⟨⟨q.1, fun w w0 w1 => q.2 w w0 (by omega)⟩, q.2 k k0 (by omega) hc37⟩⟩))
  refine Wk.aload_n (k := 0) (q := 1) (by decide +kernel) rfl rfl rfl ?_
  refine Wk.aload_n (k := 0) (q := 2) (by decide +kernel) rfl rfl rfl ?_
  refine Wk.getR (r := 3) (q := 5) f_Sear_116 (by decide +kernel) O_1 (by decide) rfl rfl rfl ?_
  refine Wk.iload_n (k := 1) (q := 6) (by decide +kernel) rfl rfl rfl ?_
  refine Wk.iaload (q := 7) (by decide +kernel) A_3 (by first | omega | exact bi_rng _) (by first | omega | exact bi_rng _) rfl ?_
  refine Wk.cS (q := 10) l_Sear_119 m_Sear_deepSpots (by decide +kernel) (fun _ h => h) (Nat.le_of_ble_eq_true rfl) (Nat.le_of_ble_eq_true rfl) rfl (c_Sear_deepSpots (by omega) hC.1) rfl (fun v I' L' hP => ?_)
  obtain ⟨⟨dp, rfl, hdp⟩, rfl, rfl⟩ := hP
  refine Wk.lstore_n (k := 2) (q := 11) (by decide +kernel) rfl (by decide) rfl (fun _ h => h) rfl ?_
  refine Wk.aload_n (k := 0) (q := 12) (by decide +kernel) rfl rfl rfl ?_
  refine Wk.iconst (n := 0) (q := 13) (by decide +kernel) rfl ?_
  refine Wk.cS (q := 16) l_Sear_119 m_Sear_deepSpots (by decide +kernel) (fun _ h => h) (Nat.le_of_ble_eq_true rfl) (Nat.le_of_ble_eq_true rfl) rfl (c_Sear_deepSpots (by omega) hC.1) rfl (fun v I' L' hP => ?_)
  obtain ⟨⟨g0, rfl, hg0⟩, rfl, rfl⟩ := hP
  refine Wk.lstore (i := 4) (q := 18) (by decide +kernel) (by decide) rfl (fun _ h => h) rfl ?_
  refine Wk.iconst (n := 0) (q := 19) (by decide +kernel) rfl ?_
  refine Wk.istore (i := 6) (q := 21) (by decide +kernel) (by decide) rfl (fun _ h => h) rfl ?_
  exact key dp g0 hdp hg0
theorem c_Sear_badSpots {f s : Int} (hf : Slot1 I f) (hs : Slot1 I s) (hC : CW I) : Wk xs x_Sear_badSpots (d + 2) 0 0 0 [some (vr 1), some (vi f), some (vi s), none, none, none, none, none, none] [] X2 I L (pLB (cBad I f s) I L) := by
  obtain ⟨hW, hH, -, hF, hA, hB, -⟩ := id hC.1
  obtain ⟨hdr, hch, hsd⟩ := hC.2.1 s hs
  have hs8 : 0 ≤ s ∧ s < 8 := by unfold Slot1 at hs; omega
  obtain ⟨-, hch2, hsd2⟩ := hC.2.1 f hf
  have hf8 : 0 ≤ f ∧ f < 8 := by unfold Slot1 at hf; omega
  have key : Wk xs x_Sear_badSpots (d + 2) 0 0 20 [some (vr 1), some (vi f), some (vi s), some (vi (I 4 f - I 4 s)), some (vl 0), none, some (vi 0), none, none] [] X2 I L (pLB (cBad I f s) I L) := by
    refine loopS (σ := Int64 × Option AV × Option AV) (fun k t => Wk xs x_Sear_badSpots (d + 2) 0 0 20 [some (vr 1), some (vi f), some (vi s), some (vi (I 4 f - I 4 s)), some (vl t.1), none, some (vi k), t.2.1, t.2.2] [] X2 I L (pLB (cBad I f s) I L)) (fun k t => LB t.1 (fun u v => ∃ w, (0 ≤ w ∧ w < k) ∧ bt (I 1 3) w = true ∧ CLw (I 4 f) (I 5 f) 3 3 (I 4 s) (I 5 s) u v w)) 8 0 (0, none, none) (by omega) (LB.zero (fun x y q => by obtain ⟨w, q, -⟩ := q; omega)) ?_ ?_
    · intro t hJ
      obtain ⟨u, o7, o8⟩ := t
      simp only at hJ ⊢
      refine Wk.iload (i := 6) (q := 22) (by decide +kernel) rfl rfl ?_
      refine Wk.bipush (n := 8) (q := 24) (by decide +kernel) (by decide +kernel) rfl ?_
      refine Wk.icmp_ge (off := (90)) (t := 114) (q := 27) (by decide +kernel) (by decide) rfl (by first | omega | exact bi_rng _) (by first | omega | exact bi_rng _) (fun hc24 => ?_) (fun hc24 => ?_)
      · refine Wk.lload (i := 4) (q := 116) (by decide +kernel) rfl rfl ?_
        exact Wk.rlP (by decide +kernel) rfl (⟨⟨u, rfl, hJ.cong (fun x y _ _ _ _ => ⟨fun ⟨w, q1, q2, q3⟩ => ⟨w, q1.1, q1.2, q2, q3⟩, fun ⟨w, q1, q2, q3, q4⟩ => ⟨w, ⟨q1, q2⟩, q3, q4⟩⟩)⟩, rfl, rfl⟩)
      · omega
    · intro k t k0 k1 hJ ih
      obtain ⟨u, o7, o8⟩ := t
      simp only at hJ ⊢
      have m1 := mulB hch (windX_r k)
      have m2 := mulB hch (windY_r k)
      have m3 := mulB hch2 (windX_r k)
      have m4 := mulB hch2 (windY_r k)
      have p1 : (I 4 f - I 4 s) * windX k = I 4 f * windX k - I 4 s * windX k := Int.sub_mul _ _ _
      have p2 : (I 4 f - I 4 s) * windY k = I 4 f * windY k - I 4 s * windY k := Int.sub_mul _ _ _
      have wx := windX_r k
      have wy := windY_r k
      have b1 : -2 ≤ (I 4 f - I 4 s) * windX k ∧ (I 4 f - I 4 s) * windX k ≤ 2 := by
        have h3 : windX k = -1 ∨ windX k = 0 ∨ windX k = 1 := by omega
        rcases h3 with h | h | h <;> rw [h] <;> omega
      have b2 : -2 ≤ (I 4 f - I 4 s) * windY k ∧ (I 4 f - I 4 s) * windY k ≤ 2 := by
        have h3 : windY k = -1 ∨ windY k = 0 ∨ windY k = 1 := by omega
        rcases h3 with h | h | h <;> rw [h] <;> omega
      refine Wk.iload (i := 6) (q := 22) (by decide +kernel) rfl rfl ?_
      refine Wk.bipush (n := 8) (q := 24) (by decide +kernel) (by decide +kernel) rfl ?_
      refine Wk.icmp_ge (off := (90)) (t := 114) (q := 27) (by decide +kernel) (by decide) rfl (by first | omega | exact bi_rng _) (by first | omega | exact bi_rng _) (fun hc24 => ?_) (fun hc24 => ?_)
      · omega
      · refine Wk.aload_n (k := 0) (q := 28) (by decide +kernel) rfl rfl rfl ?_
        refine Wk.getI (z := 3) (q := 31) f_Sear_122 (by decide +kernel) O_1 (by decide) rfl rfl rfl ?_
        refine Wk.iload (i := 6) (q := 33) (by decide +kernel) rfl rfl ?_
        refine Wk.cSi (q := 36) l_Sear_125 m_Swing_blows (by decide +kernel) (fun _ h => h) (Nat.le_of_ble_eq_true rfl) (Nat.le_of_ble_eq_true rfl) rfl (c_Swing_blows (by omega) (by omega) (by omega) (by omega)) rfl ?_
        refine Wk.ifB_eq (off := (72)) (t := 108) (q := 39) (by decide +kernel) (by decide) rfl (fun hc36 => ?_) (fun hc36 => ?_)
        · refine Wk.iinc (i := 6) (n := 1) (q := 111) (by decide +kernel) rfl (by decide) rfl (fun _ h => h) rfl ?_
          refine Wk.goto (off := (-91)) (q := 20) (by decide +kernel) (by decide) ?_
          first
            | (refine ih (_, _, _) (hJ.cong (fun x y _ _ _ _ => ⟨fun ⟨w, q1, q2⟩ => ⟨w, by omega, q2⟩, fun ⟨w, q1, q2, q3⟩ => ⟨w, ⟨q1.1, ?_⟩, q2, q3⟩⟩))
               rcases Classical.em (w = k) with e | e
               · rw [e] at q2
                 exact absurd q2 hc36
               · omega)
            | (refine ih (_, _, _) ((hJ.or hz).cong (fun x y _ _ _ _ => ⟨fun q => q.elim (fun ⟨w, q1, q2⟩ => ⟨w, by omega, q2⟩) (fun q => ⟨k, by omega, hc36, by unfold CLw; omega⟩), fun ⟨w, q1, q2, q3⟩ => ?_⟩))
               rcases Classical.em (w = k) with e | e
               · subst e
                 right
                 unfold CLw at q3
                 omega
               · exact Or.inl ⟨w, by omega, q2, q3⟩)
        · refine Wk.iconst (n := 3) (q := 40) (by decide +kernel) rfl ?_
          refine Wk.iload_n (k := 3) (q := 41) (by decide +kernel) rfl rfl rfl ?_
          refine Wk.getsX (q := 44) fs_Sear_133 (by decide +kernel) rfl ?_
          refine Wk.iload (i := 6) (q := 46) (by decide +kernel) rfl rfl ?_
          refine Wk.ialX (q := 47) (by decide +kernel) (by first | omega | exact bi_rng _) (by first | omega | exact bi_rng _) rfl ?_
          refine Wk.imul (q := 48) (by decide +kernel) rfl ?_
          refine Wk.iadd (q := 49) (by decide +kernel) rfl ?_
          refine Wk.aload_n (k := 0) (q := 50) (by decide +kernel) rfl rfl rfl ?_
          refine Wk.getR (r := 5) (q := 53) f_Sear_139 (by decide +kernel) O_1 (by decide) rfl rfl rfl ?_
          refine Wk.iload_n (k := 2) (q := 54) (by decide +kernel) rfl rfl rfl ?_
          refine Wk.iaload (q := 55) (by decide +kernel) A_5 (by first | omega | exact bi_rng _) (by first | omega | exact bi_rng _) rfl ?_
          refine Wk.isub (q := 56) (by decide +kernel) rfl ?_
          refine Wk.iconst (n := 1) (q := 57) (by decide +kernel) rfl ?_
          refine Wk.iadd (q := 58) (by decide +kernel) rfl ?_
          refine Wk.istore (i := 7) (q := 60) (by decide +kernel) (by decide) rfl (fun _ h => h) rfl ?_
          refine Wk.iconst (n := 3) (q := 61) (by decide +kernel) rfl ?_
          refine Wk.iload_n (k := 3) (q := 62) (by decide +kernel) rfl rfl rfl ?_
          refine Wk.getsY (q := 65) fs_Sear_136 (by decide +kernel) rfl ?_
          refine Wk.iload (i := 6) (q := 67) (by decide +kernel) rfl rfl ?_
          refine Wk.ialY (q := 68) (by decide +kernel) (by first | omega | exact bi_rng _) (by first | omega | exact bi_rng _) rfl ?_
          refine Wk.imul (q := 69) (by decide +kernel) rfl ?_
          refine Wk.iadd (q := 70) (by decide +kernel) rfl ?_
          refine Wk.aload_n (k := 0) (q := 71) (by decide +kernel) rfl rfl rfl ?_
          refine Wk.getR (r := 5) (q := 74) f_Sear_139 (by decide +kernel) O_1 (by decide) rfl rfl rfl ?_
          refine Wk.iload_n (k := 2) (q := 75) (by decide +kernel) rfl rfl rfl ?_
          refine Wk.iaload (q := 76) (by decide +kernel) A_5 (by first | omega | exact bi_rng _) (by first | omega | exact bi_rng _) rfl ?_
          refine Wk.isub (q := 77) (by decide +kernel) rfl ?_
          refine Wk.iconst (n := 1) (q := 78) (by decide +kernel) rfl ?_
          refine Wk.iadd (q := 79) (by decide +kernel) rfl ?_
          refine Wk.istore (i := 8) (q := 81) (by decide +kernel) (by decide) rfl (fun _ h => h) rfl ?_
          refine Wk.lload (i := 4) (q := 83) (by decide +kernel) rfl rfl ?_
          refine Wk.iload (i := 7) (q := 85) (by decide +kernel) rfl rfl ?_
          refine Wk.iload (i := 8) (q := 87) (by decide +kernel) rfl rfl ?_
          refine Wk.aload_n (k := 0) (q := 88) (by decide +kernel) rfl rfl rfl ?_
          refine Wk.getR (r := 5) (q := 91) f_Sear_139 (by decide +kernel) O_1 (by decide) rfl rfl rfl ?_
          refine Wk.iload_n (k := 1) (q := 92) (by decide +kernel) rfl rfl rfl ?_
          refine Wk.iaload (q := 93) (by decide +kernel) A_5 (by first | omega | exact bi_rng _) (by first | omega | exact bi_rng _) rfl ?_
          refine Wk.aload_n (k := 0) (q := 94) (by decide +kernel) rfl rfl rfl ?_
          refine Wk.getR (r := 5) (q := 97) f_Sear_139 (by decide +kernel) O_1 (by decide) rfl rfl rfl ?_
          refine Wk.iload_n (k := 2) (q := 98) (by decide +kernel) rfl rfl rfl ?_
          refine Wk.iaload (q := 99) (by decide +kernel) A_5 (by first | omega | exact bi_rng _) (by first | omega | exact bi_rng _) rfl ?_
          refine Wk.iadd (q := 100) (by decide +kernel) rfl ?_
          refine Wk.iconst (n := 1) (q := 101) (by decide +kernel) rfl ?_
          refine Wk.isub (q := 102) (by decide +kernel) rfl ?_
          refine Wk.cS (q := 105) l_Sear_155 m_Sear_square (by decide +kernel) (fun _ h => h) (Nat.le_of_ble_eq_true rfl) (Nat.le_of_ble_eq_true rfl) rfl (c_Sear_square (by omega) (by omega) (by omega)) rfl (fun v I' L' hP => ?_)
          obtain ⟨⟨z, rfl, hz⟩, rfl, rfl⟩ := hP
          refine Wk.lor (q := 106) (by decide +kernel) rfl ?_
          refine Wk.lstore (i := 4) (q := 108) (by decide +kernel) (by decide) rfl (fun _ h => h) rfl ?_
          refine Wk.iinc (i := 6) (n := 1) (q := 111) (by decide +kernel) rfl (by decide) rfl (fun _ h => h) rfl ?_
          refine Wk.goto (off := (-91)) (q := 20) (by decide +kernel) (by decide) ?_
          first
            | (refine ih (_, _, _) (hJ.cong (fun x y _ _ _ _ => ⟨fun ⟨w, q1, q2⟩ => ⟨w, by omega, q2⟩, fun ⟨w, q1, q2, q3⟩ => ⟨w, ⟨q1.1, ?_⟩, q2, q3⟩⟩))
               rcases Classical.em (w = k) with e | e
               · rw [e] at q2
                 exact absurd q2 hc36
               · omega)
            | (refine ih (_, _, _) ((hJ.or hz).cong (fun x y _ _ _ _ => ⟨fun q => q.elim (fun ⟨w, q1, q2⟩ => ⟨w, by omega, q2⟩) (fun q => ⟨k, by omega, hc36, by unfold CLw; omega⟩), fun ⟨w, q1, q2, q3⟩ => ?_⟩))
               rcases Classical.em (w = k) with e | e
               · subst e
                 right
                 unfold CLw at q3
                 omega
               · exact Or.inl ⟨w, by omega, q2, q3⟩)
  refine Wk.aload_n (k := 0) (q := 1) (by decide +kernel) rfl rfl rfl ?_
  refine Wk.getR (r := 4) (q := 4) f_Sear_130 (by decide +kernel) O_1 (by decide) rfl rfl rfl ?_
  refine Wk.iload_n (k := 1) (q := 5) (by decide +kernel) rfl rfl rfl ?_
  refine Wk.iaload (q := 6) (by decide +kernel) A_4 (by first | omega | exact bi_rng _) (by first | omega | exact bi_rng _) rfl ?_
  refine Wk.aload_n (k := 0) (q := 7) (by decide +kernel) rfl rfl rfl ?_
  refine Wk.getR (r := 4) (q := 10) f_Sear_130 (by decide +kernel) O_1 (by decide) rfl rfl rfl ?_
  refine Wk.iload_n (k := 2) (q := 11) (by decide +kernel) rfl rfl rfl ?_
  refine Wk.iaload (q := 12) (by decide +kernel) A_4 (by first | omega | exact bi_rng _) (by first | omega | exact bi_rng _) rfl ?_
  refine Wk.isub (q := 13) (by decide +kernel) rfl ?_
  refine Wk.istore_n (k := 3) (q := 14) (by decide +kernel) rfl (by decide) rfl (fun _ h => h) rfl ?_
  refine Wk.lconst (n := 0) (v := 0) (q := 15) (by decide +kernel) rfl rfl ?_
  refine Wk.lstore (i := 4) (q := 17) (by decide +kernel) (by decide) rfl (fun _ h => h) rfl ?_
  refine Wk.iconst (n := 0) (q := 18) (by decide +kernel) rfl ?_
  refine Wk.istore (i := 6) (q := 20) (by decide +kernel) (by decide) rfl (fun _ h => h) rfl ?_
  exact key
theorem c_Sear_around {f s p : Int} {Q : Int → Int → Prop} (hf : 0 ≤ f ∧ f < 8) (hs : 0 ≤ s ∧ s < 8) (hp : 0 ≤ p ∧ p < 64) (h : LB (L 126 (f * 8 + s)) Q) : Wk xs x_Sear_around (d + 1) 0 0 0 [some (vr 122), some (vi f), some (vi s), some (vi p)] [] X2 I L (pLB (offP Q (3 - p % 8) (3 - p / 8)) I L) := by
  refine Wk.aload_n (k := 0) (q := 1) (by decide +kernel) rfl rfl rfl ?_
  refine Wk.getR (r := 126) (q := 4) f_Sear_22 (by decide +kernel) O_122 (by decide) rfl rfl rfl ?_
  refine Wk.iload_n (k := 1) (q := 5) (by decide +kernel) rfl rfl rfl ?_
  refine Wk.bipush (n := 8) (q := 7) (by decide +kernel) (by decide +kernel) rfl ?_
  refine Wk.imul (q := 8) (by decide +kernel) rfl ?_
  refine Wk.iload_n (k := 2) (q := 9) (by decide +kernel) rfl rfl rfl ?_
  refine Wk.iadd (q := 10) (by decide +kernel) rfl ?_
  refine Wk.laload (q := 11) (by decide +kernel) A_126 (by first | omega | exact bi_rng _) (by first | omega | exact bi_rng _) rfl ?_
  refine Wk.iconst (n := 3) (q := 12) (by decide +kernel) rfl ?_
  refine Wk.iload_n (k := 3) (q := 13) (by decide +kernel) rfl rfl rfl ?_
  refine Wk.cNi (q := 16) ln_Sear_97 m_Sw_columnOf (by decide +kernel) (fun _ h => h) (Nat.le_of_ble_eq_true rfl) (Nat.le_of_ble_eq_true rfl) rfl (c_Sw_columnOf (by omega) (by omega)) rfl ?_
  refine Wk.isub (q := 17) (by decide +kernel) rfl ?_
  refine Wk.iconst (n := 3) (q := 18) (by decide +kernel) rfl ?_
  refine Wk.iload_n (k := 3) (q := 19) (by decide +kernel) rfl rfl rfl ?_
  refine Wk.cNi (q := 22) ln_Sear_100 m_Sw_lineOf (by decide +kernel) (fun _ h => h) (Nat.le_of_ble_eq_true rfl) (Nat.le_of_ble_eq_true rfl) rfl (c_Sw_lineOf (by omega) (by omega)) rfl ?_
  refine Wk.isub (q := 23) (by decide +kernel) rfl ?_
  refine Wk.cS (q := 26) l_Sear_103 m_Sear_seenFrom (by decide +kernel) (fun _ h => h) (Nat.le_of_ble_eq_true rfl) (Nat.le_of_ble_eq_true rfl) rfl (c_Sear_seenFrom h (by omega) (by omega)) rfl (fun v I' L' hP => ?_)
  obtain ⟨⟨z, rfl, hz⟩, rfl, rfl⟩ := hP
  exact Wk.rlP (by decide +kernel) rfl (⟨⟨z, rfl, hz⟩, rfl, rfl⟩)
end SEB
