/-! THE REFERENCE: tryRows -/
theorem cset_pre {c c1 : Int → Int} {i s : Int} (hp : ∀ j, 0 ≤ j → j < i → c j = c1 j) : ∀ j, 0 ≤ j → j < i + 1 → cset c i s j = cset c1 i s j := fun j j0 j1 => by
  by_cases hj : j = i
  · rw [hj, cset_eq, cset_eq]
  · rw [cset_ne hj, cset_ne hj]; exact hp j j0 (by omega)
theorem lea_in {G : Int → Int → Prop} {K : Int → Int → Int → Int → Prop} {r : Nat} {i t : Int} {c c1 : Int → Int} (hp : ∀ j, 0 ≤ j → j < i → c j = c1 j) (h0 : 0 ≤ i) (hci : c i = t + 1) (hok : OKx G K c i (t + 1)) (hno : ∀ s, s ≤ t → OKx G K c1 i s → ¬ Exr G K r (i + 1) (cset c1 i s)) (hl : Lea G K r (i + 1) c) : Lea G K (r + 1) i c :=
  ⟨⟨by rw [hci]; exact hok, fun s hs ho hx => hno s (by omega) ((OKx_cong hp Iff.rfl (fun _ _ _ => Iff.rfl)).mp ho) ((Exr_pre (by omega) (cset_pre hp)).mp hx)⟩, hl⟩
section MOF
variable {xs : RO} {d : Nat} {J0 : IM} {L : LM} {n m : Int} {post : Option AV → LY → IM → LM → Prop}
abbrev TW (xs : RO) (d : Nat) (L : LM) (n m : Int) (post : Option AV → LY → IM → LM → Prop) (i : Int) (I : IM) : Prop := Wk xs x_Mod_tryRows (d + 7) 0 0 15 [some (vr 148), some (vi n), some (vi m), some (vi i)] [] X2 I L post

theorem tryStep (hM : MW J0) (hn : n ≤ 3) (hR : ∀ k, 0 ≤ k → k < n → MP J0 (J0 154 k)) (hfree : ∀ j c, 0 ≤ j → j < n → mC J0 c → J0 155 (49 * j + c) = bi (mFr J0 (J0 154 j) m c)) {i t : Int} {I1 : IM} (h0 : 0 ≤ i) (h1 : i < n) (hE : Ex1 153 I1 J0) (ht : I1 153 i = t) (ht1 : -1 ≤ t) (ht2 : t < J0 149 0 * J0 149 1) (hpre : ∀ j, 0 ≤ j → j < i → mC J0 (I1 153 j))
    (hnext : ∀ I2, Ex1 153 I2 J0 → I2 153 i = t + 1 → (∀ j, 0 ≤ j → j < i → I2 153 j = I1 153 j) → OKx (uG J0 m) (uK J0) (I2 153) i (t + 1) → Wk xs x_Mod_tryRows (d + 7) 0 0 83 [some (vr 148), some (vi n), some (vi m), some (vi (i + 1))] [] X2 I2 L post)
    (hagain : ∀ I2, t + 1 < J0 149 0 * J0 149 1 → Ex1 153 I2 J0 → I2 153 i = t + 1 → (∀ j, 0 ≤ j → j < i → I2 153 j = I1 153 j) → ¬ OKx (uG J0 m) (uK J0) (I2 153) i (t + 1) → TW xs d L n m post i I2)
    (hfail : ∀ I2, t + 1 = J0 149 0 * J0 149 1 → Ex1 153 I2 J0 → (∀ j, 0 ≤ j → j < i → I2 153 j = I1 153 j) → TW xs d L n m post (i + -1) I2) : TW xs d L n m post i I1 := by
  obtain ⟨hI, hS, hQ⟩ := id hM
  obtain ⟨hW, hH, hT, hF, hA, hK, hD⟩ := id hI
  have h49 := WH49 (W := J0 149 0) (H := J0 149 1) (by omega) (by omega)
  refine Wk.iload_n (k := 3) (q := 16) (by decide +kernel) rfl rfl rfl ?_
  refine Wk.if_lt (off := (82)) (t := 98) (q := 19) (by decide +kernel) (by decide) rfl (by first | omega | exact bi_rng _) (fun hc16 => ?_) (fun hc16 => ?_)
  · omega
  · refine Wk.iload_n (k := 3) (q := 20) (by decide +kernel) rfl rfl rfl ?_
    refine Wk.iload_n (k := 1) (q := 21) (by decide +kernel) rfl rfl rfl ?_
    refine Wk.icmp_ge (off := (77)) (t := 98) (q := 24) (by decide +kernel) (by decide) rfl (by first | omega | exact bi_rng _) (by first | omega | exact bi_rng _) (fun hc21 => ?_) (fun hc21 => ?_)
    · omega
    · refine Wk.aload_n (k := 0) (q := 25) (by decide +kernel) rfl rfl rfl ?_
      refine Wk.getR (r := 153) (q := 28) f_Mod_22 (by decide +kernel) O_148 (by decide) rfl rfl rfl ?_
      refine Wk.iload_n (k := 3) (q := 29) (by decide +kernel) rfl rfl rfl ?_
      refine Wk.dup2 (q := 30) (by decide +kernel) rfl rfl rfl ?_
      refine Wk.iaload (q := 31) (by decide +kernel) A_153 (by first | omega | exact bi_rng _) (by first | omega | exact bi_rng _) rfl ?_
      refine Wk.iconst (n := 1) (q := 32) (by decide +kernel) rfl ?_
      refine Wk.iadd (q := 33) (by decide +kernel) rfl ?_
      refine Wk.iastore (q := 34) (by decide +kernel) A_153 (by first | omega | exact bi_rng _) (by first | omega | exact bi_rng _) rfl ?_
      generalize hI2 : iup I1 153 i (I1 153 i + 1) = I2
      have q1 : I2 153 i = t + 1 := by rw [← hI2, iup_at, ht]
      have q2 : Ex1 153 I2 J0 := by rw [← hI2]; exact hE.up _ _
      have q3 : ∀ j, ¬ j = i → I2 153 j = I1 153 j := fun j hj => by rw [← hI2]; exact iup_ne (fun z => hj z.2)
      have q4 : ∀ j, 0 ≤ j → j < i → I2 153 j = I1 153 j := fun j _ hj => q3 j (by omega)
      have e1 := q2 149 (by decide)
      have e2 := q2 154 (by decide)
      have e3 := q2 155 (by decide)
      refine Wk.aload_n (k := 0) (q := 35) (by decide +kernel) rfl rfl rfl ?_
      refine Wk.getR (r := 153) (q := 38) f_Mod_22 (by decide +kernel) O_148 (by decide) rfl rfl rfl ?_
      refine Wk.iload_n (k := 3) (q := 39) (by decide +kernel) rfl rfl rfl ?_
      refine Wk.iaload (q := 40) (by decide +kernel) A_153 (by first | omega | exact bi_rng _) (by first | omega | exact bi_rng _) rfl ?_
      rw [q1]
      refine Wk.aload_n (k := 0) (q := 41) (by decide +kernel) rfl rfl rfl ?_
      refine Wk.cVi (q := 44) l_Mod_97 m_Mod_cells (by decide +kernel) (fun _ h => h) O_148 rfl (Nat.le_of_ble_eq_true rfl) (Nat.le_of_ble_eq_true rfl) rfl (c_Mod_cells) rfl ?_
      rw [e1]
      refine Wk.icmp_lt (off := (9)) (t := 53) (q := 47) (by decide +kernel) (by decide) rfl (by first | omega | exact bi_rng _) (by first | omega | exact bi_rng _) (fun hc44 => ?_) (fun hc44 => ?_)
      · refine Wk.aload_n (k := 0) (q := 54) (by decide +kernel) rfl rfl rfl ?_
        refine Wk.getR (r := 155) (q := 57) f_Mod_28 (by decide +kernel) O_148 (by decide) rfl rfl rfl ?_
        refine Wk.bipush (n := 49) (q := 59) (by decide +kernel) (by decide +kernel) rfl ?_
        refine Wk.iload_n (k := 3) (q := 60) (by decide +kernel) rfl rfl rfl ?_
        refine Wk.imul (q := 61) (by decide +kernel) rfl ?_
        refine Wk.aload_n (k := 0) (q := 62) (by decide +kernel) rfl rfl rfl ?_
        refine Wk.getR (r := 153) (q := 65) f_Mod_22 (by decide +kernel) O_148 (by decide) rfl rfl rfl ?_
        refine Wk.iload_n (k := 3) (q := 66) (by decide +kernel) rfl rfl rfl ?_
        refine Wk.iaload (q := 67) (by decide +kernel) A_153 (by first | omega | exact bi_rng _) (by first | omega | exact bi_rng _) rfl ?_
        rw [q1]
        refine Wk.iadd (q := 68) (by decide +kernel) rfl ?_
        refine Wk.baload (q := 69) (by decide +kernel) A_155 (by first | omega | exact bi_rng _) (by first | omega | exact bi_rng _) rfl ?_
        rw [e3, hfree i (t + 1) h0 h1 ⟨by omega, by omega⟩]
        refine Wk.if_eq (off := (-54)) (t := 15) (q := 72) (by decide +kernel) (by decide) rfl (by first | omega | exact bi_rng _) (fun hc69 => ?_) (fun hc69 => ?_)
        · first
            | exact hfail I2 (by omega) q2 q4
            | exact hagain I2 (by omega) q2 q1 q4 (fun z => by first | exact bi_eq0.mp hc69 z.1.2 | exact hc77 (hfb.mpr z.2))
        · have hfb : (∀ k, 0 ≤ k → k < i → ¬ mCL I2 (I2 149 3) (I2 154 k) (I2 153 k) (I2 154 i) (I2 153 i)) ↔ ∀ j, 0 ≤ j → j < i → ¬ uK J0 j (I2 153 j) i (t + 1) := by
            rw [q1, e2]
            exact ⟨fun h j j0 j1 z => h j j0 j1 ((mCL_eq e1).mpr (by rw [e1]; exact z)), fun h j j0 j1 z => h j j0 j1 (by have z2 := (mCL_eq e1).mp z; rw [e1] at z2; exact z2)⟩
          have hcall := c_Mod_fitsBehind (xs := xs) (d := d + 3) (L := L) (I := I2) h0 (by omega) ((MW_eq e1).mpr hM) (fun k k0 k1 => ⟨(MP_eq e1).mpr (by rw [e2]; exact hR k k0 (by omega)), (mC_eq e1).mpr (by
            rcases Classical.em (k = i) with z | z
            · rw [z, q1]; exact ⟨by omega, by omega⟩
            · rw [q3 k z]; exact hpre k k0 (by omega))⟩)
          refine Wk.aload_n (k := 0) (q := 73) (by decide +kernel) rfl rfl rfl ?_
          refine Wk.iload_n (k := 3) (q := 74) (by decide +kernel) rfl rfl rfl ?_
          refine Wk.cVi (q := 77) l_Mod_109 m_Mod_fitsBehind (by decide +kernel) (fun _ h => h) O_148 rfl (Nat.le_of_ble_eq_true rfl) (Nat.le_of_ble_eq_true rfl) rfl (hcall) rfl ?_
          refine Wk.ifB_eq (off := (-62)) (t := 15) (q := 80) (by decide +kernel) (by decide) rfl (fun hc77 => ?_) (fun hc77 => ?_)
          · first
              | exact hfail I2 (by omega) q2 q4
              | exact hagain I2 (by omega) q2 q1 q4 (fun z => by first | exact bi_eq0.mp hc69 z.1.2 | exact hc77 (hfb.mpr z.2))
          · refine Wk.iinc (i := 3) (n := 1) (q := 83) (by decide +kernel) rfl (by decide) rfl (fun _ h => h) rfl ?_
            exact hnext I2 q2 q1 q4 ⟨⟨⟨by omega, by omega⟩, Classical.not_not.mp (fun z => hc69 (bi_f z))⟩, hfb.mp hc77⟩
      · refine Wk.iinc (i := 3) (n := (-1)) (q := 50) (by decide +kernel) rfl (by decide) rfl (fun _ h => h) rfl ?_
        refine Wk.goto (off := (-35)) (q := 15) (by decide +kernel) (by decide) ?_
        first
          | exact hfail I2 (by omega) q2 q4
          | exact hagain I2 (by omega) q2 q1 q4 (fun z => by first | exact bi_eq0.mp hc69 z.1.2 | exact hc77 (hfb.mpr z.2))
theorem tryR (hM : MW J0) (hn : n ≤ 3) (hR : ∀ k, 0 ≤ k → k < n → MP J0 (J0 154 k)) (hfree : ∀ j c, 0 ≤ j → j < n → mC J0 c → J0 155 (49 * j + c) = bi (mFr J0 (J0 154 j) m c)) : ∀ (r f : Nat) (i t : Int) (I1 : IM), 0 ≤ i → i + r + 1 = n → Ex1 153 I1 J0 → I1 153 i = t → -1 ≤ t → t < J0 149 0 * J0 149 1 → J0 149 0 * J0 149 1 ≤ t + 1 + f → (∀ j, 0 ≤ j → j < i → mC J0 (I1 153 j)) → (∀ s, s ≤ t → OKx (uG J0 m) (uK J0) (I1 153) i s → ¬ Exr (uG J0 m) (uK J0) r (i + 1) (cset (I1 153) i s)) → (∀ I2, Ex1 153 I2 J0 → (∀ j, 0 ≤ j → j < i → I2 153 j = I1 153 j) → Lea (uG J0 m) (uK J0) (r + 1) i (I2 153) → TW xs d L n m post n I2) → (∀ I2, Ex1 153 I2 J0 → (∀ j, 0 ≤ j → j < i → I2 153 j = I1 153 j) → ¬ Exr (uG J0 m) (uK J0) (r + 1) i (I1 153) → TW xs d L n m post (i + -1) I2) → TW xs d L n m post i I1 := by
  have nof : ∀ (r : Nat) (i t : Int) (c : Int → Int), t + 1 = J0 149 0 * J0 149 1 → (∀ s, s ≤ t → OKx (uG J0 m) (uK J0) c i s → ¬ Exr (uG J0 m) (uK J0) r (i + 1) (cset c i s)) → ¬ Exr (uG J0 m) (uK J0) (r + 1) i c := by
    intro r i t c ht hno ⟨s, hs1, hs2⟩
    have := hs1.1.1.2
    exact hno s (by omega) hs1 hs2
  intro r
  induction r with
  | zero =>
    intro f
    induction f with
    | zero =>
      intro i t I1 h0 h1 hE ht ht1 ht2 hf hpre hno hs hfl
      exact tryStep hM hn hR hfree h0 (by omega) hE ht ht1 ht2 hpre (fun I2 _ _ _ ok => absurd ok.1.1.2 (by omega)) (fun I2 z => by omega) (fun I2 z q2 q4 => hfl I2 q2 q4 (nof 0 i t _ z hno))
    | succ f ihf =>
      intro i t I1 h0 h1 hE ht ht1 ht2 hf hpre hno hs hfl
      refine tryStep hM hn hR hfree h0 (by omega) hE ht ht1 ht2 hpre (fun I2 q2 q1 q4 ok => ?_) (fun I2 z q2 q1 q4 ok => ?_) (fun I2 z q2 q4 => hfl I2 q2 q4 (nof 0 i t _ z hno))

      · have e : i + 1 = n := by omega
        rw [e]
        have w : TW xs d L n m post n I2 := hs I2 q2 q4 (lea_in q4 h0 q1 ok hno trivial)
        refine Wk.iload_n (k := 3) (q := 84) (by decide +kernel) rfl rfl rfl ?_
        refine Wk.iload_n (k := 1) (q := 85) (by decide +kernel) rfl rfl rfl ?_
        refine Wk.icmp_ge (off := (-70)) (t := 15) (q := 88) (by decide +kernel) (by decide) rfl (by first | omega | exact bi_rng _) (by first | omega | exact bi_rng _) (fun hc85 => ?_) (fun hc85 => ?_)
        · exact w
        · omega
      · refine ihf i (t + 1) I2 h0 h1 q2 q1 (by omega) (by omega) (by omega) (fun j j0 j1 => by rw [q4 j j0 j1]; exact hpre j j0 j1) (fun s s1 so hx => ?_) (fun I3 p2 p3 pl => hs I3 p2 (fun j j0 j1 => by rw [p3 j j0 j1]; exact q4 j j0 j1) pl) (fun I3 p2 p3 pl => hfl I3 p2 (fun j j0 j1 => by rw [p3 j j0 j1]; exact q4 j j0 j1) (fun z => pl ((Exr_pre h0 q4).mpr z)))
        rcases Classical.em (s = t + 1) with e | e
        · rw [e] at so; exact ok so
        · exact hno s (by omega) ((OKx_cong q4 Iff.rfl (fun _ _ _ => Iff.rfl)).mp so) ((Exr_pre (by omega) (cset_pre q4)).mp hx)
  | succ r ihr =>
    intro f
    induction f with
    | zero =>
      intro i t I1 h0 h1 hE ht ht1 ht2 hf hpre hno hs hfl
      exact tryStep hM hn hR hfree h0 (by omega) hE ht ht1 ht2 hpre (fun I2 _ _ _ ok => absurd ok.1.1.2 (by omega)) (fun I2 z => by omega) (fun I2 z q2 q4 => hfl I2 q2 q4 (nof (r + 1) i t _ z hno))
    | succ f ihf =>
      intro i t I1 h0 h1 hE ht ht1 ht2 hf hpre hno hs hfl
      refine tryStep hM hn hR hfree h0 (by omega) hE ht ht1 ht2 hpre (fun I2 q2 q1 q4 ok => ?_) (fun I2 z q2 q1 q4 ok => ?_) (fun I2 z q2 q4 => hfl I2 q2 q4 (nof (r + 1) i t _ z hno))
      · have hcell := ok.1.1
        have w : TW xs d L n m post (i + 1) (iup I2 153 (i + 1) (-1)) := by
          generalize hI3 : iup I2 153 (i + 1) (-1) = I3
          have r1 : I3 153 (i + 1) = -1 := by rw [← hI3, iup_at]
          have r2 : Ex1 153 I3 J0 := by rw [← hI3]; exact q2.up _ _
          have r3 : ∀ j, ¬ j = i + 1 → I3 153 j = I2 153 j := fun j hj => by rw [← hI3]; exact iup_ne (fun z => hj z.2)
          have hc1 := hcell.1
          have hc2 := hcell.2
          refine ihr (J0 149 0 * J0 149 1).toNat (i + 1) (-1) I3 (by omega) (by omega) r2 r1 (by omega) (by omega) (by omega) (fun j j0 j1 => ?_) (fun s s1 so => ?_) (fun I4 p2 p3 pl => ?_) (fun I4 p2 p3 pl => ?_)
          · rw [r3 j (by omega)]
            rcases Classical.em (j = i) with e | e
            · rw [e, q1]; exact hcell
            · rw [q4 j j0 (by omega)]; exact hpre j j0 (by omega)
          · have := so.1.1.1
            omega
          · have p4 : ∀ j, 0 ≤ j → j < i → I4 153 j = I2 153 j := fun j j0 j1 => by rw [p3 j j0 (by omega), r3 j (by omega)]
            have p5 : ∀ j, 0 ≤ j → j < i → I4 153 j = I1 153 j := fun j j0 j1 => by rw [p4 j j0 j1, q4 j j0 j1]
            refine hs I4 p2 p5 (lea_in p5 h0 (by rw [p3 i h0 (by omega), r3 i (by omega), q1]) ((OKx_cong p4 Iff.rfl (fun _ _ _ => Iff.rfl)).mpr ok) hno pl)
          · have p4 : ∀ j, 0 ≤ j → j < i → I4 153 j = I2 153 j := fun j j0 j1 => by rw [p3 j j0 (by omega), r3 j (by omega)]
            have p5 : ∀ j, 0 ≤ j → j < i → I4 153 j = I1 153 j := fun j j0 j1 => by rw [p4 j j0 j1, q4 j j0 j1]
            have p6 : I4 153 i = t + 1 := by rw [p3 i h0 (by omega), r3 i (by omega), q1]
            rw [show i + 1 + -1 = i by omega]
            refine ihf i (t + 1) I4 h0 h1 p2 p6 (by omega) (by omega) (by omega) (fun j j0 j1 => by rw [p5 j j0 j1]; exact hpre j j0 j1) (fun s s1 so hx => ?_) (fun I5 u2 u3 ul => hs I5 u2 (fun j j0 j1 => by rw [u3 j j0 j1]; exact p5 j j0 j1) ul) (fun I5 u2 u3 ul => hfl I5 u2 (fun j j0 j1 => by rw [u3 j j0 j1]; exact p5 j j0 j1) (fun z => ul ((Exr_pre h0 p5).mpr z)))
            rcases Classical.em (s = t + 1) with e | e
            · refine pl ((Exr_pre (by omega) (fun j j0 j1 => ?_)).mp hx)
              rcases Classical.em (j = i) with e2 | e2
              · rw [e2, cset_eq, r3 i (by omega), q1, e]
              · rw [cset_ne e2, p3 j j0 (by omega)]
            · exact hno s (by omega) ((OKx_cong p5 Iff.rfl (fun _ _ _ => Iff.rfl)).mp so) ((Exr_pre (by omega) (cset_pre p5)).mp hx)
        refine Wk.iload_n (k := 3) (q := 84) (by decide +kernel) rfl rfl rfl ?_
        refine Wk.iload_n (k := 1) (q := 85) (by decide +kernel) rfl rfl rfl ?_
        refine Wk.icmp_ge (off := (-70)) (t := 15) (q := 88) (by decide +kernel) (by decide) rfl (by first | omega | exact bi_rng _) (by first | omega | exact bi_rng _) (fun hc85 => ?_) (fun hc85 => ?_)
        · first | omega | exact w
        · refine Wk.aload_n (k := 0) (q := 89) (by decide +kernel) rfl rfl rfl ?_
          refine Wk.getR (r := 153) (q := 92) f_Mod_22 (by decide +kernel) O_148 (by decide) rfl rfl rfl ?_
          refine Wk.iload_n (k := 3) (q := 93) (by decide +kernel) rfl rfl rfl ?_
          refine Wk.iconst (n := (-1)) (q := 94) (by decide +kernel) rfl ?_
          refine Wk.iastore (q := 95) (by decide +kernel) A_153 (by first | omega | exact bi_rng _) (by first | omega | exact bi_rng _) rfl ?_
          refine Wk.goto (off := (-80)) (q := 15) (by decide +kernel) (by decide) ?_
          first | omega | exact w
      · refine ihf i (t + 1) I2 h0 h1 q2 q1 (by omega) (by omega) (by omega) (fun j j0 j1 => by rw [q4 j j0 j1]; exact hpre j j0 j1) (fun s s1 so hx => ?_) (fun I3 p2 p3 pl => hs I3 p2 (fun j j0 j1 => by rw [p3 j j0 j1]; exact q4 j j0 j1) pl) (fun I3 p2 p3 pl => hfl I3 p2 (fun j j0 j1 => by rw [p3 j j0 j1]; exact q4 j j0 j1) (fun z => pl ((Exr_pre h0 q4).mpr z)))
        rcases Classical.em (s = t + 1) with e | e
        · rw [e] at so; exact ok so
        · exact hno s (by omega) ((OKx_cong q4 Iff.rfl (fun _ _ _ => Iff.rfl)).mp so) ((Exr_pre (by omega) (cset_pre q4)).mp hx)
end MOF
section MOG
variable {xs : RO} {d : Nat} {I : IM} {L : LM}
theorem c_Mod_tryRows {n m : Int} (h0 : 0 ≤ n) (h1 : n ≤ 3) (hM : MW I) (hm : 0 ≤ m ∧ m ≤ 31) (hR : ∀ k, 0 ≤ k → k < n → MP I (I 154 k)) : Wk xs x_Mod_tryRows (d + 7) 0 0 0 [some (vr 148), some (vi n), some (vi m), none] [] X2 I L (p2 fun v I' L' => ((v = some (vi 1) ∧ Lea (uG I m) (uK I) n.toNat 0 (I' 153)) ∨ (v = some (vi 0) ∧ ¬ Exr (uG I m) (uK I) n.toNat 0 (fun _ => 0))) ∧ (∀ k, ¬ k = 153 → ¬ k = 155 → I' k = I k) ∧ L' = L) := by
  have key : ∀ J0 : IM, Ex1 155 J0 I → (∀ j c, 0 ≤ j → j < n → mC I c → J0 155 (49 * j + c) = bi (mFr I (I 154 j) m c)) → TW xs d L n m (p2 fun v I' L' => ((v = some (vi 1) ∧ Lea (uG I m) (uK I) n.toNat 0 (I' 153)) ∨ (v = some (vi 0) ∧ ¬ Exr (uG I m) (uK I) n.toNat 0 (fun _ => 0))) ∧ (∀ k, ¬ k = 153 → ¬ k = 155 → I' k = I k) ∧ L' = L) 0 (iup J0 153 0 (-1)) := by
    intro J0 hE hfr
    have e1 := hE 149 (by decide)
    have e2 := hE 154 (by decide)
    have hkeep : ∀ I2, Ex1 153 I2 J0 → ∀ k, ¬ k = 153 → ¬ k = 155 → I2 k = I k := fun I2 h k k1 k2 => (h k k1).trans (hE k k2)
    have fin : ∀ I2, Ex1 153 I2 J0 → Lea (uG J0 m) (uK J0) n.toNat 0 (I2 153) → TW xs d L n m (p2 fun v I' L' => ((v = some (vi 1) ∧ Lea (uG I m) (uK I) n.toNat 0 (I' 153)) ∨ (v = some (vi 0) ∧ ¬ Exr (uG I m) (uK I) n.toNat 0 (fun _ => 0))) ∧ (∀ k, ¬ k = 153 → ¬ k = 155 → I' k = I k) ∧ L' = L) n I2 := by
      intro I2 q2 ql
      rw [uG_eq e1 e2, uK_eq e1 e2] at ql
      refine Wk.iload_n (k := 3) (q := 16) (by decide +kernel) rfl rfl rfl ?_
      refine Wk.if_lt (off := (82)) (t := 98) (q := 19) (by decide +kernel) (by decide) rfl (by first | omega | exact bi_rng _) (fun hc16 => ?_) (fun hc16 => ?_)
      · refine Wk.iload_n (k := 3) (q := 99) (by decide +kernel) rfl rfl rfl ?_
        refine Wk.iload_n (k := 1) (q := 100) (by decide +kernel) rfl rfl rfl ?_
        refine Wk.icmp_ne (off := (7)) (t := 107) (q := 103) (by decide +kernel) (by decide) rfl (by first | omega | exact bi_rng _) (by first | omega | exact bi_rng _) (fun hc100 => ?_) (fun hc100 => ?_)
        · refine Wk.iconst (n := 0) (q := 108) (by decide +kernel) rfl ?_
          exact Wk.rzP (by decide +kernel) rfl (by first | omega | decide | exact bi_01 _) (by first | omega | exact ⟨Or.inl ⟨rfl, ql⟩, hkeep I2 q2, rfl⟩)
        · refine Wk.iconst (n := 1) (q := 104) (by decide +kernel) rfl ?_
          refine Wk.goto (off := (4)) (q := 108) (by decide +kernel) (by decide) ?_
          exact Wk.rzP (by decide +kernel) rfl (by first | omega | decide | exact bi_01 _) (by first | omega | exact ⟨Or.inl ⟨rfl, ql⟩, hkeep I2 q2, rfl⟩)
      · refine Wk.iload_n (k := 3) (q := 20) (by decide +kernel) rfl rfl rfl ?_
        refine Wk.iload_n (k := 1) (q := 21) (by decide +kernel) rfl rfl rfl ?_
        refine Wk.icmp_ge (off := (77)) (t := 98) (q := 24) (by decide +kernel) (by decide) rfl (by first | omega | exact bi_rng _) (by first | omega | exact bi_rng _) (fun hc21 => ?_) (fun hc21 => ?_)
        · refine Wk.iload_n (k := 3) (q := 99) (by decide +kernel) rfl rfl rfl ?_
          refine Wk.iload_n (k := 1) (q := 100) (by decide +kernel) rfl rfl rfl ?_
          refine Wk.icmp_ne (off := (7)) (t := 107) (q := 103) (by decide +kernel) (by decide) rfl (by first | omega | exact bi_rng _) (by first | omega | exact bi_rng _) (fun hc100 => ?_) (fun hc100 => ?_)
          · refine Wk.iconst (n := 0) (q := 108) (by decide +kernel) rfl ?_
            exact Wk.rzP (by decide +kernel) rfl (by first | omega | decide | exact bi_01 _) (by first | omega | exact ⟨Or.inl ⟨rfl, ql⟩, hkeep I2 q2, rfl⟩)
          · refine Wk.iconst (n := 1) (q := 104) (by decide +kernel) rfl ?_
            refine Wk.goto (off := (4)) (q := 108) (by decide +kernel) (by decide) ?_
            exact Wk.rzP (by decide +kernel) rfl (by first | omega | decide | exact bi_01 _) (by first | omega | exact ⟨Or.inl ⟨rfl, ql⟩, hkeep I2 q2, rfl⟩)
        · omega
    have q0 : Ex1 153 (iup J0 153 0 (-1)) J0 := Ex1.up (fun _ _ => rfl) _ _
    have hMJ := (MW_eq e1).mpr hM
    have h49 := WH49 (W := J0 149 0) (H := J0 149 1) (by have := hMJ.1.1; omega) (by have := hMJ.1.2.1; omega)
    rcases Classical.em (n = 0) with hz | hz
    · have := fin (iup J0 153 0 (-1)) q0 (by rw [hz]; trivial)
      rw [hz] at this ⊢
      exact this
    · have en : (n - 1).toNat + 1 = n.toNat := by omega
      refine tryR hMJ h1 (fun k k0 k1 => (MP_eq e1).mpr (by rw [e2]; exact hR k k0 k1)) (fun j c j0 j1 jc => by rw [hfr j c j0 j1 ((mC_eq e1).mp jc), e2]; exact bi_cong (mFr_eq e1).symm) (n - 1).toNat (J0 149 0 * J0 149 1).toNat 0 (-1) (iup J0 153 0 (-1)) (by omega) (by omega) q0 (iup_at _ _ _ _) (by omega) (by omega) (by omega) (fun j j0 j1 => by omega) (fun s s1 so => by have := so.1.1.1; omega) (fun I2 q2 _ ql => fin I2 q2 (by rw [en] at ql; exact ql)) (fun I2 q2 _ ql => ?_)
      rw [en, uG_eq e1 e2, uK_eq e1 e2, Exr_pre (c2 := fun _ => 0) (by omega) (fun j j0 j1 => by omega)] at ql
      refine Wk.iload_n (k := 3) (q := 16) (by decide +kernel) rfl rfl rfl ?_
      refine Wk.if_lt (off := (82)) (t := 98) (q := 19) (by decide +kernel) (by decide) rfl (by first | omega | exact bi_rng _) (fun hc16 => ?_) (fun hc16 => ?_)
      · refine Wk.iload_n (k := 3) (q := 99) (by decide +kernel) rfl rfl rfl ?_
        refine Wk.iload_n (k := 1) (q := 100) (by decide +kernel) rfl rfl rfl ?_
        refine Wk.icmp_ne (off := (7)) (t := 107) (q := 103) (by decide +kernel) (by decide) rfl (by first | omega | exact bi_rng _) (by first | omega | exact bi_rng _) (fun hc100 => ?_) (fun hc100 => ?_)
        · refine Wk.iconst (n := 0) (q := 108) (by decide +kernel) rfl ?_
          exact Wk.rzP (by decide +kernel) rfl (by first | omega | decide | exact bi_01 _) (by first | omega | exact ⟨Or.inr ⟨rfl, ql⟩, hkeep I2 q2, rfl⟩)
        · refine Wk.iconst (n := 1) (q := 104) (by decide +kernel) rfl ?_
          refine Wk.goto (off := (4)) (q := 108) (by decide +kernel) (by decide) ?_
          exact Wk.rzP (by decide +kernel) rfl (by first | omega | decide | exact bi_01 _) (by first | omega | exact ⟨Or.inr ⟨rfl, ql⟩, hkeep I2 q2, rfl⟩)
      · omega
  refine Wk.aload_n (k := 0) (q := 1) (by decide +kernel) rfl rfl rfl ?_
  refine Wk.iload_n (k := 1) (q := 2) (by decide +kernel) rfl rfl rfl ?_
  refine Wk.iload_n (k := 2) (q := 3) (by decide +kernel) rfl rfl rfl ?_
  refine Wk.cV (q := 6) l_Mod_106 m_Mod_layFree (by decide +kernel) (fun _ h => h) O_148 rfl (Nat.le_of_ble_eq_true rfl) (Nat.le_of_ble_eq_true rfl) rfl (c_Mod_layFree h0 h1 hM hm hR) rfl (fun v I' L' hP => ?_)
  obtain ⟨rfl, hE, hfr, rfl⟩ := hP
  refine Wk.iconst (n := 0) (q := 7) (by decide +kernel) rfl ?_
  refine Wk.istore_n (k := 3) (q := 8) (by decide +kernel) rfl (by decide) rfl (fun _ h => h) rfl ?_
  refine Wk.aload_n (k := 0) (q := 9) (by decide +kernel) rfl rfl rfl ?_
  refine Wk.getR (r := 153) (q := 12) f_Mod_22 (by decide +kernel) O_148 (by decide) rfl rfl rfl ?_
  refine Wk.iconst (n := 0) (q := 13) (by decide +kernel) rfl ?_
  refine Wk.iconst (n := (-1)) (q := 14) (by decide +kernel) rfl ?_
  refine Wk.iastore (q := 15) (by decide +kernel) A_153 (by first | omega | exact bi_rng _) (by first | omega | exact bi_rng _) rfl ?_
  exact key I' hE hfr
end MOG
