/-! THE CLASS'S SEARCH: settles, settlesAt, settlesRow -/
def SI (I I0 : IM) : Prop := ∀ c b, ¬ c = 124 → I c b = I0 c b
def SLm (L L0 : LM) : Prop := ∀ c b, ¬ c = 127 → L c b = L0 c b
abbrev rG (I0 : IM) : Int → Int → Prop := fun i s => (0 ≤ s ∧ s < 64) ∧ cLeft I0 (I0 123 i) (I0 122 3) (s % 8) (s / 8)
abbrev rK (I0 : IM) : Int → Int → Int → Int → Prop := fun i s j t => CL (I0 1 3) (I0 4 (I0 123 i)) (I0 5 (I0 123 i)) (s % 8) (s / 8) (I0 4 (I0 123 j)) (I0 5 (I0 123 j)) (t % 8) (t / 8)
def RowOK (I0 : IM) (L0 : LM) : Prop := CW I0 ∧ (0 ≤ I0 122 2 ∧ I0 122 2 ≤ 3) ∧ (0 ≤ I0 122 3 ∧ I0 122 3 < 32) ∧ (∀ i, 0 ≤ i → i < I0 122 2 → Slot1 I0 (I0 123 i) ∧ LookOK I0 L0 (I0 123 i) ∧ ∀ a, 0 ≤ a → a < I0 1 4 → bt (I0 122 3) a = false → ¬ a = I0 123 i) ∧ ∀ i j, 0 ≤ i → i < j → j < I0 122 2 → ¬ I0 123 i = I0 123 j
def FP (I0 : IM) (lv : Int) (c : Int → Int) (i : Int) : Int → Int → Prop := fun x y => cLeft I0 (I0 123 i) (I0 122 3) x y ∧ ∀ j, 0 ≤ j → j < lv → ¬ CL (I0 1 3) (I0 4 (I0 123 j)) (I0 5 (I0 123 j)) (c j % 8) (c j / 8) (I0 4 (I0 123 i)) (I0 5 (I0 123 i)) x y
theorem OKx_FP {I0 : IM} {lv s : Int} {c : Int → Int} : OKx (rG I0) (rK I0) c lv s ↔ (0 ≤ s ∧ s < 64) ∧ FP I0 lv c lv (s % 8) (s / 8) :=
  ⟨fun h => ⟨h.1.1, h.1.2, h.2⟩, fun h => ⟨⟨h.1, h.2.1⟩, h.2.2⟩⟩
theorem FP_cong {I0 : IM} {lv i x y : Int} {c c2 : Int → Int} (h : ∀ j, 0 ≤ j → j < lv → c j = c2 j) : FP I0 lv c i x y ↔ FP I0 lv c2 i x y := by
  unfold FP
  constructor <;> rintro ⟨h1, h2⟩ <;> refine ⟨h1, fun j j0 j1 => ?_⟩
  · rw [← h j j0 j1]; exact h2 j j0 j1
  · rw [h j j0 j1]; exact h2 j j0 j1
def FreeOK (I0 : IM) (lv : Int) (c : Int → Int) (L : LM) : Prop := ∀ i, lv ≤ i → i < I0 122 2 → LB (L 127 (lv * 3 + i)) (FP I0 lv c i)
/-- what a search from a level on leaves -/
def SePost (I0 : IM) (L0 : LM) (lv : Int) (I : IM) (L : LM) (good bad : IM → Prop) : Option AV → IM → LM → Prop := fun v I' L' => ((v = some (vi 1) ∧ good I') ∨ (v = some (vi 0) ∧ bad I)) ∧ SI I' I0 ∧ SLm L' L0 ∧ (∀ b, b < lv → I' 124 b = I 124 b) ∧ ∀ b, b < (lv + 1) * 3 → L' 127 b = L 127 b
def SettlesOK (xs : RO) (I0 : IM) (L0 : LM) (n d : Nat) : Prop := ∀ (lv : Int) (I : IM) (L : LM), 0 ≤ lv → lv + n = I0 122 2 → SI I I0 → SLm L L0 → FreeOK I0 lv (I 124) L →
  Wk xs x_Sear_settles d 0 0 0 [some (vr 122), some (vi lv), none, none, none] [] X2 I L (p2 (SePost I0 L0 lv I L (fun I' => Lea (rG I0) (rK I0) n lv (I' 124)) (fun I => ¬ Exr (rG I0) (rK I0) n lv (I 124))))
def SettlesAtOK (xs : RO) (I0 : IM) (L0 : LM) (n d : Nat) : Prop := ∀ (lv s : Int) (I : IM) (L : LM), 0 ≤ lv → lv + n + 1 = I0 122 2 → SI I I0 → SLm L L0 → FreeOK I0 lv (I 124) L → OKx (rG I0) (rK I0) (I 124) lv s →
  Wk xs x_Sear_settlesAt d 0 0 0 [some (vr 122), some (vi lv), some (vi s), none, none, none] [] X2 I L (p2 (SePost I0 L0 lv I L (fun I' => Lea (rG I0) (rK I0) n (lv + 1) (I' 124) ∧ I' 124 lv = s) (fun I => ¬ Exr (rG I0) (rK I0) n (lv + 1) (cset (I 124) lv s))))
section SED
variable {xs : RO} {I0 : IM} {L0 : LM}

theorem settles_0 (hR : RowOK I0 L0) (d : Nat) : SettlesOK xs I0 L0 0 d := by
  intro lv I L h0 h1 hI hL hF
  have e := hI 122 2 (by decide)
  have hlen := hR.2.1
  refine Wk.iload_n (k := 1) (q := 1) (by decide +kernel) rfl rfl rfl ?_
  refine Wk.aload_n (k := 0) (q := 2) (by decide +kernel) rfl rfl rfl ?_
  refine Wk.getI (z := 2) (q := 5) f_Sear_50 (by decide +kernel) O_122 (by decide) rfl rfl rfl ?_
  refine Wk.icmp_ge (off := (8)) (t := 13) (q := 8) (by decide +kernel) (by decide) rfl (by first | omega | exact bi_rng _) (by first | omega | exact bi_rng _) (fun hc5 => ?_) (fun hc5 => ?_)
  · refine Wk.iconst (n := 1) (q := 14) (by decide +kernel) rfl ?_
    exact Wk.rzP (by decide +kernel) rfl (by first | omega | decide | exact bi_01 _) (⟨Or.inl ⟨rfl, trivial⟩, hI, hL, fun _ _ => rfl, fun _ _ => rfl⟩)
  · omega
theorem settlesAt_of {n d : Nat} (hR : RowOK I0 L0) (hS : SettlesOK xs I0 L0 n (d + 2)) : SettlesAtOK xs I0 L0 n (d + 3) := by
  intro lv s I L h0 h1 hI hL hF hO
  have hlen := hR.2.1
  obtain ⟨⟨hs0, hs1⟩, hFs⟩ := OKx_FP.mp hO
  have key : ∀ I1 : IM, SI I1 I0 → (∀ b, ¬ b = lv → I1 124 b = I 124 b) → I1 124 lv = s → Wk xs x_Sear_settlesAt (d + 3) 0 0 11 [some (vr 122), some (vi lv), some (vi s), some (vi (lv + 1)), none, none] [] X2 I1 L (p2 (SePost I0 L0 lv I L (fun I' => Lea (rG I0) (rK I0) n (lv + 1) (I' 124) ∧ I' 124 lv = s) (fun I => ¬ Exr (rG I0) (rK I0) n (lv + 1) (cset (I 124) lv s)))) := by
    intro I1 hI1 hb1 hs2
    have e2 := hI1 122 2 (by decide)
    have hc1 : ∀ j, 0 ≤ j → j < lv + 1 → I1 124 j = cset (I 124) lv s j := fun j j0 j1 => by
      by_cases hj : j = lv
      · rw [hj, cset_eq]; exact hs2
      · rw [cset_ne hj]; exact hb1 j hj
    refine loopS (σ := LM × Option AV) (fun i t => Wk xs x_Sear_settlesAt (d + 3) 0 0 11 [some (vr 122), some (vi lv), some (vi s), some (vi i), t.2, none] [] X2 I1 t.1 (p2 (SePost I0 L0 lv I L (fun I' => Lea (rG I0) (rK I0) n (lv + 1) (I' 124) ∧ I' 124 lv = s) (fun I => ¬ Exr (rG I0) (rK I0) n (lv + 1) (cset (I 124) lv s))))) (fun i t => SLm t.1 L0 ∧ (∀ b, b < (lv + 1) * 3 → t.1 127 b = L 127 b) ∧ ∀ m, lv + 1 ≤ m → m < i → LB (t.1 127 ((lv + 1) * 3 + m)) (FP I0 (lv + 1) (I1 124) m)) (I0 122 2) (lv + 1) (L, none) (by omega) ⟨hL, fun _ _ => rfl, fun m m0 m1 => by omega⟩ ?_ ?_
    · intro t hJ
      obtain ⟨L2, o4⟩ := t
      obtain ⟨hJ1, hJ2, hJ3⟩ := hJ
      simp only at hJ1 hJ2 hJ3 ⊢
      refine Wk.iload_n (k := 3) (q := 12) (by decide +kernel) rfl rfl rfl ?_
      refine Wk.aload_n (k := 0) (q := 13) (by decide +kernel) rfl rfl rfl ?_
      refine Wk.getI (z := 2) (q := 16) f_Sear_50 (by decide +kernel) O_122 (by decide) rfl rfl rfl ?_
      refine Wk.icmp_ge (off := (66)) (t := 82) (q := 19) (by decide +kernel) (by decide) rfl (by first | omega | exact bi_rng _) (by first | omega | exact bi_rng _) (fun hc16 => ?_) (fun hc16 => ?_)
      · refine Wk.aload_n (k := 0) (q := 83) (by decide +kernel) rfl rfl rfl ?_
        refine Wk.iload_n (k := 1) (q := 84) (by decide +kernel) rfl rfl rfl ?_
        refine Wk.iconst (n := 1) (q := 85) (by decide +kernel) rfl ?_
        refine Wk.iadd (q := 86) (by decide +kernel) rfl ?_
        refine Wk.cV (q := 89) l_Sear_73 m_Sear_settles (by decide +kernel) (fun _ h => h) O_122 rfl (Nat.le_of_ble_eq_true rfl) (Nat.le_of_ble_eq_true rfl) rfl (hS (lv + 1) I1 L2 (by omega) (by omega) hI1 hJ1 (fun i i0 i1 => hJ3 i i0 i1)) rfl (fun v I' L' hP => ?_)
        obtain ⟨hv, q1, q2, q3, q4⟩ := hP
        have hfin : SePost I0 L0 lv I L (fun I' => Lea (rG I0) (rK I0) n (lv + 1) (I' 124) ∧ I' 124 lv = s) (fun I => ¬ Exr (rG I0) (rK I0) n (lv + 1) (cset (I 124) lv s)) v I' L' := by
          refine ⟨?_, q1, q2, fun b hb => by rw [q3 b (by omega)]; exact hb1 b (by omega), fun b hb => by rw [q4 b (by omega)]; exact hJ2 b hb⟩
          rcases hv with ⟨rfl, hv⟩ | ⟨rfl, hv⟩
          · exact Or.inl ⟨rfl, hv, by rw [q3 lv (by omega)]; exact hs2⟩
          · exact Or.inr ⟨rfl, fun z => hv ((Exr_pre (by omega) hc1).mpr z)⟩
        obtain ⟨z, hz, hz2⟩ : ∃ z : Int, (z = 0 ∨ z = 1) ∧ v = some (vi z) := by
          rcases hv with ⟨rfl, -⟩ | ⟨rfl, -⟩
          · exact ⟨1, Or.inr rfl, rfl⟩
          · exact ⟨0, Or.inl rfl, rfl⟩
        subst hz2
        exact Wk.rzP (by decide +kernel) rfl (by first | omega | decide | exact bi_01 _) (hfin)
      · omega
    · intro i t i0 i1 hJ ih
      obtain ⟨L2, o4⟩ := t
      obtain ⟨hJ1, hJ2, hJ3⟩ := hJ
      simp only at hJ1 hJ2 hJ3 ⊢
      obtain ⟨rs1, rs2, -⟩ := hR.2.2.2.1 lv h0 (by omega)
      obtain ⟨ri1, ri2, -⟩ := hR.2.2.2.1 i (by omega) (by omega)
      have e3 := hI1 123 lv (by decide)
      have e4 := hI1 123 i (by decide)
      have b3 : 0 ≤ I0 123 lv ∧ I0 123 lv < 8 := by have := hR.1.1; unfold CI0 at this; unfold Slot1 at rs1; omega
      have b4 : 0 ≤ I0 123 i ∧ I0 123 i < 8 := by have := hR.1.1; unfold CI0 at this; unfold Slot1 at ri1; omega
      have hbad : LB (L2 126 (I0 123 lv * 8 + I0 123 i)) (cBad I0 (I0 123 lv) (I0 123 i)) := by
        rw [hJ1 126 _ (by decide)]
        exact ri2.2 (I0 123 lv) b3.1 b3.2 rs1 (hR.2.2.2.2 lv i h0 (by omega) i1)
      have hfr : LB (L2 127 (lv * 3 + i)) (FP I0 lv (I 124) i) := by
        rw [hJ2 _ (by omega)]
        exact hF i (by omega) i1
      obtain ⟨-, c1, c2⟩ := hR.1.2.1 _ rs1
      obtain ⟨-, c3, c4⟩ := hR.1.2.1 _ ri1
      refine Wk.iload_n (k := 3) (q := 12) (by decide +kernel) rfl rfl rfl ?_
      refine Wk.aload_n (k := 0) (q := 13) (by decide +kernel) rfl rfl rfl ?_
      refine Wk.getI (z := 2) (q := 16) f_Sear_50 (by decide +kernel) O_122 (by decide) rfl rfl rfl ?_
      refine Wk.icmp_ge (off := (66)) (t := 82) (q := 19) (by decide +kernel) (by decide) rfl (by first | omega | exact bi_rng _) (by first | omega | exact bi_rng _) (fun hc16 => ?_) (fun hc16 => ?_)
      · omega
      · refine Wk.aload_n (k := 0) (q := 20) (by decide +kernel) rfl rfl rfl ?_
        refine Wk.getR (r := 127) (q := 23) f_Sear_25 (by decide +kernel) O_122 (by decide) rfl rfl rfl ?_
        refine Wk.iload_n (k := 1) (q := 24) (by decide +kernel) rfl rfl rfl ?_
        refine Wk.iconst (n := 3) (q := 25) (by decide +kernel) rfl ?_
        refine Wk.imul (q := 26) (by decide +kernel) rfl ?_
        refine Wk.iload_n (k := 3) (q := 27) (by decide +kernel) rfl rfl rfl ?_
        refine Wk.iadd (q := 28) (by decide +kernel) rfl ?_
        refine Wk.laload (q := 29) (by decide +kernel) A_127 (by first | omega | exact bi_rng _) (by first | omega | exact bi_rng _) rfl ?_
        refine Wk.aload_n (k := 0) (q := 30) (by decide +kernel) rfl rfl rfl ?_
        refine Wk.aload_n (k := 0) (q := 31) (by decide +kernel) rfl rfl rfl ?_
        refine Wk.getR (r := 123) (q := 34) f_Sear_11 (by decide +kernel) O_122 (by decide) rfl rfl rfl ?_
        refine Wk.iload_n (k := 1) (q := 35) (by decide +kernel) rfl rfl rfl ?_
        refine Wk.iaload (q := 36) (by decide +kernel) A_123 (by first | omega | exact bi_rng _) (by first | omega | exact bi_rng _) rfl ?_
        refine Wk.aload_n (k := 0) (q := 37) (by decide +kernel) rfl rfl rfl ?_
        refine Wk.getR (r := 123) (q := 40) f_Sear_11 (by decide +kernel) O_122 (by decide) rfl rfl rfl ?_
        refine Wk.iload_n (k := 3) (q := 41) (by decide +kernel) rfl rfl rfl ?_
        refine Wk.iaload (q := 42) (by decide +kernel) A_123 (by first | omega | exact bi_rng _) (by first | omega | exact bi_rng _) rfl ?_
        refine Wk.iload_n (k := 2) (q := 43) (by decide +kernel) rfl rfl rfl ?_
        refine Wk.cV (q := 46) l_Sear_81 m_Sear_around (by decide +kernel) (fun _ h => h) O_122 rfl (Nat.le_of_ble_eq_true rfl) (Nat.le_of_ble_eq_true rfl) rfl ((by rw [e3, e4]; exact c_Sear_around b3 b4 ⟨hs0, hs1⟩ hbad)) rfl (fun v I' L' hP => ?_)
        obtain ⟨⟨z, rfl, hz⟩, rfl, rfl⟩ := hP
        have hleft : LB (L' 127 (lv * 3 + i) &&& (z ^^^ -1)) (FP I0 (lv + 1) (I' 124) i) := (hfr.and hz.not).cong (fun x y _ _ _ _ => by
          rw [FP_cong hc1]
          unfold FP
          constructor
          · rintro ⟨⟨p1, p2⟩, p3⟩
            refine ⟨p1, ext1 (fun j j0 j1 => by rw [cset_ne (by omega)]; exact p2 j j0 j1) ?_⟩
            rw [cset_eq]
            exact fun q => p3 ((cl_shift c1 c2 c3 c4).mpr q)
          · rintro ⟨p1, p2⟩
            refine ⟨⟨p1, fun j j0 j1 => ?_⟩, fun q => ?_⟩
            · have := p2 j j0 (by omega)
              rw [cset_ne (by omega)] at this
              exact this
            · have := p2 lv h0 (by omega)
              rw [cset_eq] at this
              exact this ((cl_shift c1 c2 c3 c4).mp q))
        refine Wk.ldc2 (q := 49) k_Sear_85 (by decide +kernel) rfl ?_
        refine Wk.lxor (q := 50) (by decide +kernel) rfl ?_
        refine Wk.land (q := 51) (by decide +kernel) rfl ?_
        refine Wk.lstore (i := 4) (q := 53) (by decide +kernel) (by decide) rfl (fun _ h => h) rfl ?_
        refine Wk.lload (i := 4) (q := 55) (by decide +kernel) rfl rfl ?_
        refine Wk.lconst (n := 0) (v := 0) (q := 56) (by decide +kernel) rfl rfl ?_
        refine Wk.lcmp (q := 57) (by decide +kernel) rfl ?_
        refine Wk.if_ne (off := (5)) (t := 62) (q := 60) (by decide +kernel) (by decide) rfl (by first | omega | (split <;> (try split) <;> omega)) (fun hc57 => ?_) (fun hc57 => ?_)
        · refine Wk.aload_n (k := 0) (q := 63) (by decide +kernel) rfl rfl rfl ?_
          refine Wk.getR (r := 127) (q := 66) f_Sear_25 (by decide +kernel) O_122 (by decide) rfl rfl rfl ?_
          refine Wk.iload_n (k := 1) (q := 67) (by decide +kernel) rfl rfl rfl ?_
          refine Wk.iconst (n := 1) (q := 68) (by decide +kernel) rfl ?_
          refine Wk.iadd (q := 69) (by decide +kernel) rfl ?_
          refine Wk.iconst (n := 3) (q := 70) (by decide +kernel) rfl ?_
          refine Wk.imul (q := 71) (by decide +kernel) rfl ?_
          refine Wk.iload_n (k := 3) (q := 72) (by decide +kernel) rfl rfl rfl ?_
          refine Wk.iadd (q := 73) (by decide +kernel) rfl ?_
          refine Wk.lload (i := 4) (q := 75) (by decide +kernel) rfl rfl ?_
          refine Wk.lastore (q := 76) (by decide +kernel) A_127 (by first | omega | exact bi_rng _) (by first | omega | exact bi_rng _) rfl ?_
          refine Wk.iinc (i := 3) (n := 1) (q := 79) (by decide +kernel) rfl (by decide) rfl (fun _ h => h) rfl ?_
          refine Wk.goto (off := (-68)) (q := 11) (by decide +kernel) (by decide) ?_
          refine ih (lup L' 127 ((lv + 1) * 3 + i) (L' 127 (lv * 3 + i) &&& (z ^^^ -1)), _) ?_
          dsimp only
          exact ⟨fun c b hcb => by rw [lup_ne (fun q => hcb q.1)]; exact hJ1 c b hcb, fun b hb => by rw [lup_ne (by omega)]; exact hJ2 b hb, ext1 (fun m m0 m1 => by rw [lup_ne (by omega)]; exact hJ3 m m0 m1) (by rw [lup_eq]; exact hleft)⟩
        · refine Wk.iconst (n := 0) (q := 61) (by decide +kernel) rfl ?_
          exact Wk.rzP (by decide +kernel) rfl (by first | omega | decide | exact bi_01 _) (⟨Or.inr ⟨rfl, fun hx => by
        rw [cmp0] at hc57
        obtain ⟨t, t1, t2⟩ := Exr_each n (lv + 1) _ (by omega) hx i i0 (by omega)
        exact (hleft.zero_iff.mp hc57) (t % 8) (t / 8) (by omega) (by omega) (by have := t1.1; omega) (by have := t1.1; omega) ((FP_cong hc1).mpr ⟨t1.2, t2⟩)⟩, hI1, hJ1, fun b hb => hb1 b (by omega), hJ2⟩)
  refine Wk.aload_n (k := 0) (q := 1) (by decide +kernel) rfl rfl rfl ?_
  refine Wk.getR (r := 124) (q := 4) f_Sear_15 (by decide +kernel) O_122 (by decide) rfl rfl rfl ?_
  refine Wk.iload_n (k := 1) (q := 5) (by decide +kernel) rfl rfl rfl ?_
  refine Wk.iload_n (k := 2) (q := 6) (by decide +kernel) rfl rfl rfl ?_
  refine Wk.iastore (q := 7) (by decide +kernel) A_124 (by first | omega | exact bi_rng _) (by first | omega | exact bi_rng _) rfl ?_
  refine Wk.iload_n (k := 1) (q := 8) (by decide +kernel) rfl rfl rfl ?_
  refine Wk.iconst (n := 1) (q := 9) (by decide +kernel) rfl ?_
  refine Wk.iadd (q := 10) (by decide +kernel) rfl ?_
  refine Wk.istore_n (k := 3) (q := 11) (by decide +kernel) rfl (by decide) rfl (fun _ h => h) rfl ?_
  exact key _ (fun c b hcb => by simp only [iup]; rw [if_neg (fun q => hcb q.1)]; exact hI c b hcb) (fun b hb => by simp only [iup]; rw [if_neg (fun q => hb q.2)]) (by simp [iup])
theorem settles_of {n d : Nat} (hR : RowOK I0 L0) (hT : SettlesAtOK xs I0 L0 n (d + 1)) : SettlesOK xs I0 L0 (n + 1) (d + 2) := by
  intro lv I L h0 h1 hI hL hF
  have e := hI 122 2 (by decide)
  have hlen := hR.2.1
  have hfr := hF lv (by omega) (by omega)
  have key : Wk xs x_Sear_settles (d + 2) 0 0 29 [some (vr 122), some (vi lv), some (vl (L 127 (lv * 3 + lv))), none, some (vi 0)] [] X2 I L (p2 (SePost I0 L0 lv I L (fun I' => Lea (rG I0) (rK I0) (n + 1) lv (I' 124)) (fun I => ¬ Exr (rG I0) (rK I0) (n + 1) lv (I 124)))) := by
    refine loopS (σ := IM × LM) (fun k t => Wk xs x_Sear_settles (d + 2) 0 0 29 [some (vr 122), some (vi lv), some (vl (L 127 (lv * 3 + lv))), none, some (vi k)] [] X2 t.1 t.2 (p2 (SePost I0 L0 lv I L (fun I' => Lea (rG I0) (rK I0) (n + 1) lv (I' 124)) (fun I => ¬ Exr (rG I0) (rK I0) (n + 1) lv (I 124))))) (fun k t => SI t.1 I0 ∧ SLm t.2 L0 ∧ (∀ b, b < lv → t.1 124 b = I 124 b) ∧ (∀ b, b < (lv + 1) * 3 → t.2 127 b = L 127 b) ∧ ∀ s, 0 ≤ s → s < k → OKx (rG I0) (rK I0) (I 124) lv s → ¬ Exr (rG I0) (rK I0) n (lv + 1) (cset (I 124) lv s)) 64 0 (I, L) (by omega) ⟨hI, hL, fun _ _ => rfl, fun _ _ => rfl, fun s s0 s1 => by omega⟩ ?_ ?_
    · intro t hJ
      obtain ⟨I2, L2⟩ := t
      obtain ⟨j1, j2, j3, j4, j5⟩ := hJ
      simp only at j1 j2 j3 j4 ⊢
      refine Wk.iload (i := 4) (q := 31) (by decide +kernel) rfl rfl ?_
      refine Wk.bipush (n := 64) (q := 33) (by decide +kernel) (by decide +kernel) rfl ?_
      refine Wk.icmp_ge (off := (30)) (t := 63) (q := 36) (by decide +kernel) (by decide) rfl (by first | omega | exact bi_rng _) (by first | omega | exact bi_rng _) (fun hc33 => ?_) (fun hc33 => ?_)
      · refine Wk.iconst (n := 0) (q := 64) (by decide +kernel) rfl ?_
        exact Wk.rzP (by decide +kernel) rfl (by first | omega | decide | exact bi_01 _) (⟨Or.inr ⟨rfl, fun ⟨s, q1, q2⟩ => j5 s q1.1.1.1 q1.1.1.2 q1 q2⟩, j1, j2, j3, j4⟩)
      · omega
    · intro k t k0 k1 hJ ih
      obtain ⟨I2, L2⟩ := t
      obtain ⟨j1, j2, j3, j4, j5⟩ := hJ
      simp only at j1 j2 j3 j4 ⊢
      have hpre : ∀ j, 0 ≤ j → j < lv → I2 124 j = I 124 j := fun j _ q => j3 j q
      have hok : bl (L 127 (lv * 3 + lv)) k = true ↔ OKx (rG I0) (rK I0) (I 124) lv k := by
        rw [OKx_FP, hfr k k0 k1]
        exact ⟨fun q => ⟨⟨k0, k1⟩, q⟩, fun q => q.2⟩
      refine Wk.iload (i := 4) (q := 31) (by decide +kernel) rfl rfl ?_
      refine Wk.bipush (n := 64) (q := 33) (by decide +kernel) (by decide +kernel) rfl ?_
      refine Wk.icmp_ge (off := (30)) (t := 63) (q := 36) (by decide +kernel) (by decide) rfl (by first | omega | exact bi_rng _) (by first | omega | exact bi_rng _) (fun hc33 => ?_) (fun hc33 => ?_)
      · omega
      · refine Wk.lload_n (k := 2) (q := 37) (by decide +kernel) rfl rfl rfl ?_
        refine Wk.iload (i := 4) (q := 39) (by decide +kernel) rfl rfl ?_
        refine Wk.cNi (q := 42) ln_Sear_46 m_Sw_holds (by decide +kernel) (fun _ h => h) (Nat.le_of_ble_eq_true rfl) (Nat.le_of_ble_eq_true rfl) rfl (c_Sw_holds k0 k1) rfl ?_
        refine Wk.ifB_eq (off := (15)) (t := 57) (q := 45) (by decide +kernel) (by decide) rfl (fun hc42 => ?_) (fun hc42 => ?_)
        · refine Wk.iinc (i := 4) (n := 1) (q := 60) (by decide +kernel) rfl (by decide) rfl (fun _ h => h) rfl ?_
          refine Wk.goto (off := (-31)) (q := 29) (by decide +kernel) (by decide) ?_
          first
            | exact ih (_, _) ⟨j1, j2, j3, j4, ext1 j5 (fun q => absurd (hok.mpr q) hc42)⟩
            | (refine ih (I3, L3) ?_
               dsimp only
               refine ⟨q1, q2, fun b hb => by rw [q3 b hb]; exact j3 b hb, fun b hb => by rw [q4 b hb]; exact j4 b hb, ext1 j5 (fun _ => ?_)⟩
               rcases hv with ⟨hv, -⟩ | ⟨-, hv⟩
               · injection hv with hv
                 have : z = 1 := by injection hv
                 omega
               · exact fun q => hv ((Exr_pre (by omega) (fun j a0 a1 => by
                   by_cases hj : j = lv
                   · rw [hj, cset_eq, cset_eq]
                   · rw [cset_ne hj, cset_ne hj]; exact hpre j a0 (by omega))).mpr q))
        · refine Wk.aload_n (k := 0) (q := 46) (by decide +kernel) rfl rfl rfl ?_
          refine Wk.iload_n (k := 1) (q := 47) (by decide +kernel) rfl rfl rfl ?_
          refine Wk.iload (i := 4) (q := 49) (by decide +kernel) rfl rfl ?_
          refine Wk.cV (q := 52) l_Sear_77 m_Sear_settlesAt (by decide +kernel) (fun _ h => h) O_122 rfl (Nat.le_of_ble_eq_true rfl) (Nat.le_of_ble_eq_true rfl) rfl (hT lv k I2 L2 h0 (by omega) j1 j2 (fun i i0 i1 => by rw [j4 _ (by omega)]; exact (hF i i0 i1).cong (fun x y _ _ _ _ => (FP_cong hpre).symm)) ((OKx_cong hpre Iff.rfl (fun _ _ _ => Iff.rfl)).mpr (hok.mp hc42))) rfl (fun v I3 L3 hP => ?_)
          obtain ⟨hv, q1, q2, q3, q4⟩ := hP
          obtain ⟨z, hz, hz2⟩ : ∃ z : Int, (z = 0 ∨ z = 1) ∧ v = some (vi z) := by
            rcases hv with ⟨rfl, -⟩ | ⟨rfl, -⟩
            · exact ⟨1, Or.inr rfl, rfl⟩
            · exact ⟨0, Or.inl rfl, rfl⟩
          subst hz2
          refine Wk.if_eq (off := (5)) (t := 57) (q := 55) (by decide +kernel) (by decide) rfl (by first | omega | exact bi_rng _) (fun hc52 => ?_) (fun hc52 => ?_)
          · refine Wk.iinc (i := 4) (n := 1) (q := 60) (by decide +kernel) rfl (by decide) rfl (fun _ h => h) rfl ?_
            refine Wk.goto (off := (-31)) (q := 29) (by decide +kernel) (by decide) ?_
            first
              | exact ih (_, _) ⟨j1, j2, j3, j4, ext1 j5 (fun q => absurd (hok.mpr q) hc42)⟩
              | (refine ih (I3, L3) ?_
                 dsimp only
                 refine ⟨q1, q2, fun b hb => by rw [q3 b hb]; exact j3 b hb, fun b hb => by rw [q4 b hb]; exact j4 b hb, ext1 j5 (fun _ => ?_)⟩
                 rcases hv with ⟨hv, -⟩ | ⟨-, hv⟩
                 · injection hv with hv
                   have : z = 1 := by injection hv
                   omega
                 · exact fun q => hv ((Exr_pre (by omega) (fun j a0 a1 => by
                     by_cases hj : j = lv
                     · rw [hj, cset_eq, cset_eq]
                     · rw [cset_ne hj, cset_ne hj]; exact hpre j a0 (by omega))).mpr q))
          · refine Wk.iconst (n := 1) (q := 56) (by decide +kernel) rfl ?_
            exact Wk.rzP (by decide +kernel) rfl (by first | omega | decide | exact bi_01 _) (⟨Or.inl ⟨rfl, by
        rcases hv with ⟨-, hv, hv2⟩ | ⟨hv, -⟩
        · have hp3 : ∀ j, 0 ≤ j → j < lv → I3 124 j = I 124 j := fun j a0 a1 => by rw [q3 j a1]; exact j3 j a1
          refine ⟨⟨?_, fun s hs ho => ?_⟩, hv⟩
          · rw [hv2]
            exact (OKx_cong hp3 Iff.rfl (fun _ _ _ => Iff.rfl)).mpr (hok.mp hc42)
          · rw [hv2] at hs
            have ho2 := (OKx_cong hp3 Iff.rfl (fun _ _ _ => Iff.rfl)).mp ho
            exact fun q => j5 s ho2.1.1.1 hs ho2 ((Exr_pre (by omega) (fun j a0 a1 => by
              by_cases hj : j = lv
              · rw [hj, cset_eq, cset_eq]
              · rw [cset_ne hj, cset_ne hj]; exact hp3 j a0 (by omega))).mp q)
        · injection hv with hv
          have : z = 0 := by injection hv
          omega⟩, q1, q2, fun b hb => by rw [q3 b hb]; exact j3 b hb, fun b hb => by rw [q4 b hb]; exact j4 b hb⟩)
  refine Wk.iload_n (k := 1) (q := 1) (by decide +kernel) rfl rfl rfl ?_
  refine Wk.aload_n (k := 0) (q := 2) (by decide +kernel) rfl rfl rfl ?_
  refine Wk.getI (z := 2) (q := 5) f_Sear_50 (by decide +kernel) O_122 (by decide) rfl rfl rfl ?_
  refine Wk.icmp_ge (off := (8)) (t := 13) (q := 8) (by decide +kernel) (by decide) rfl (by first | omega | exact bi_rng _) (by first | omega | exact bi_rng _) (fun hc5 => ?_) (fun hc5 => ?_)
  · omega
  · refine Wk.iload_n (k := 1) (q := 9) (by decide +kernel) rfl rfl rfl ?_
    refine Wk.iconst (n := 3) (q := 10) (by decide +kernel) rfl ?_
    refine Wk.icmp_lt (off := (5)) (t := 15) (q := 13) (by decide +kernel) (by decide) rfl (by first | omega | exact bi_rng _) (by first | omega | exact bi_rng _) (fun hc10 => ?_) (fun hc10 => ?_)
    · refine Wk.aload_n (k := 0) (q := 16) (by decide +kernel) rfl rfl rfl ?_
      refine Wk.getR (r := 127) (q := 19) f_Sear_25 (by decide +kernel) O_122 (by decide) rfl rfl rfl ?_
      refine Wk.iload_n (k := 1) (q := 20) (by decide +kernel) rfl rfl rfl ?_
      refine Wk.iconst (n := 3) (q := 21) (by decide +kernel) rfl ?_
      refine Wk.imul (q := 22) (by decide +kernel) rfl ?_
      refine Wk.iload_n (k := 1) (q := 23) (by decide +kernel) rfl rfl rfl ?_
      refine Wk.iadd (q := 24) (by decide +kernel) rfl ?_
      refine Wk.laload (q := 25) (by decide +kernel) A_127 (by first | omega | exact bi_rng _) (by first | omega | exact bi_rng _) rfl ?_
      refine Wk.lstore_n (k := 2) (q := 26) (by decide +kernel) rfl (by decide) rfl (fun _ h => h) rfl ?_
      refine Wk.iconst (n := 0) (q := 27) (by decide +kernel) rfl ?_
      refine Wk.istore (i := 4) (q := 29) (by decide +kernel) (by decide) rfl (fun _ h => h) rfl ?_
      exact key
    · omega
theorem settles_all (hR : RowOK I0 L0) (d : Nat) : ∀ n : Nat, n ≤ 3 → SettlesOK xs I0 L0 n (d + 8)
  | 0, _ => settles_0 hR _
  | 1, _ => settles_of hR (settlesAt_of hR (settles_0 hR (d + 6)))
  | 2, _ => settles_of hR (settlesAt_of hR (settles_of hR (settlesAt_of hR (settles_0 hR (d + 4)))))
  | 3, _ => settles_of hR (settlesAt_of hR (settles_of hR (settlesAt_of hR (settles_of hR (settlesAt_of hR (settles_0 hR (d + 2)))))))
  | n + 4, h => absurd h (by omega)
end SED
