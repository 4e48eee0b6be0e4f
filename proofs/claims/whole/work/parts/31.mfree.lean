/-! THE REFERENCE: rows are tried -/
theorem MW_eq {I' I : IM} (h : I' 149 = I 149) : MW I' ↔ MW I := by unfold MW MI0 MI1 MI2 MP mC; rw [h]
theorem MP_eq {I' I : IM} (h : I' 149 = I 149) {p : Int} : MP I' p ↔ MP I p := by unfold MP; rw [h]
theorem mC_eq {I' I : IM} (h : I' 149 = I 149) {p : Int} : mC I' p ↔ mC I p := by unfold mC; rw [h]
theorem mFr_eq {I' I : IM} (h : I' 149 = I 149) {p m c : Int} : mFr I' p m c ↔ mFr I p m c := by unfold mFr mML mCL; rw [h]
theorem mCL_eq {I' I : IM} (h : I' 149 = I 149) {F p c q e : Int} : mCL I' F p c q e ↔ mCL I F p c q e := by unfold mCL; rw [h]
abbrev uG (I : IM) (m : Int) : Int → Int → Prop := fun i c => mC I c ∧ mFr I (I 154 i) m c
abbrev uK (I : IM) : Int → Int → Int → Int → Prop := fun i c j e => mCL I (I 149 3) (I 154 i) c (I 154 j) e
theorem uG_eq {I' I : IM} (h : I' 149 = I 149) (h2 : I' 154 = I 154) {m : Int} : uG I' m = uG I m := by
  funext i c; unfold uG mC mFr mML mCL; rw [h, h2]
theorem uK_eq {I' I : IM} (h : I' 149 = I 149) (h2 : I' 154 = I 154) : uK I' = uK I := by
  funext i c j e; unfold uK mCL; rw [h, h2]
def Ex1 (id : Nat) (I' I : IM) : Prop := ∀ k, ¬ k = id → I' k = I k
theorem Ex1.up {id : Nat} {I' I : IM} (h : Ex1 id I' I) (z v : Int) : Ex1 id (iup I' id z v) I := fun k hk => by rw [iup_other hk]; exact h k hk
section MOE
variable {xs : RO} {d : Nat} {I : IM} {L : LM}

theorem c_Mod_layFree {n m : Int} (h0 : 0 ≤ n) (h1 : n ≤ 3) (hM : MW I) (hm : 0 ≤ m ∧ m ≤ 31) (hR : ∀ k, 0 ≤ k → k < n → MP I (I 154 k)) : Wk xs x_Mod_layFree (d + 6) 0 0 0 [some (vr 148), some (vi n), some (vi m), none, none] [] X2 I L (p2 fun v I' L' => v = none ∧ Ex1 155 I' I ∧ (∀ j c, 0 ≤ j → j < n → mC I c → I' 155 (49 * j + c) = bi (mFr I (I 154 j) m c)) ∧ L' = L) := by
  obtain ⟨hI, hS, hQ⟩ := id hM
  obtain ⟨hW, hH, hT, hF, hA, hK, hD⟩ := id hI
  have h49 := WH49 (W := I 149 0) (H := I 149 1) (by omega) (by omega)
  have key : Wk xs x_Mod_layFree (d + 6) 0 0 2 [some (vr 148), some (vi n), some (vi m), some (vi 0), none] [] X2 I L (p2 fun v I' L' => v = none ∧ Ex1 155 I' I ∧ (∀ j c, 0 ≤ j → j < n → mC I c → I' 155 (49 * j + c) = bi (mFr I (I 154 j) m c)) ∧ L' = L) := by
    refine loopS2 (σ := IM) (τ := Option AV) (fun k I2 o => Wk xs x_Mod_layFree (d + 6) 0 0 2 [some (vr 148), some (vi n), some (vi m), some (vi k), o] [] X2 I2 L (p2 fun v I' L' => v = none ∧ Ex1 155 I' I ∧ (∀ j c, 0 ≤ j → j < n → mC I c → I' 155 (49 * j + c) = bi (mFr I (I 154 j) m c)) ∧ L' = L)) (fun k I2 _ => Ex1 155 I2 I ∧ (∀ j c, 0 ≤ j → j < k → mC I c → I2 155 (49 * j + c) = bi (mFr I (I 154 j) m c))) n 0 I none (by omega) ⟨fun _ _ => rfl, fun j c j0 j1 => by omega⟩ ?_ ?_
    · intro I2 o hJ
      refine Wk.iload_n (k := 3) (q := 3) (by decide +kernel) rfl rfl rfl ?_
      refine Wk.iload_n (k := 1) (q := 4) (by decide +kernel) rfl rfl rfl ?_
      refine Wk.icmp_ge (off := (52)) (t := 56) (q := 7) (by decide +kernel) (by decide) rfl (by first | omega | exact bi_rng _) (by first | omega | exact bi_rng _) (fun hc4 => ?_) (fun hc4 => ?_)
      · exact Wk.rvP (by decide +kernel) rfl (⟨rfl, hJ.1, hJ.2, rfl⟩)
      · omega
    · intro k I2 o k0 k1 hJ ih
      have key2 : Wk xs x_Mod_layFree (d + 6) 0 0 10 [some (vr 148), some (vi n), some (vi m), some (vi k), some (vi 0)] [] X2 I2 L (p2 fun v I' L' => v = none ∧ Ex1 155 I' I ∧ (∀ j c, 0 ≤ j → j < n → mC I c → I' 155 (49 * j + c) = bi (mFr I (I 154 j) m c)) ∧ L' = L) := by
        refine loopS (σ := IM) (fun e I3 => Wk xs x_Mod_layFree (d + 6) 0 0 10 [some (vr 148), some (vi n), some (vi m), some (vi k), some (vi e)] [] X2 I3 L (p2 fun v I' L' => v = none ∧ Ex1 155 I' I ∧ (∀ j c, 0 ≤ j → j < n → mC I c → I' 155 (49 * j + c) = bi (mFr I (I 154 j) m c)) ∧ L' = L)) (fun e I3 => Ex1 155 I3 I ∧ (∀ j c, 0 ≤ j → j < k → mC I c → I3 155 (49 * j + c) = bi (mFr I (I 154 j) m c)) ∧ ∀ c, 0 ≤ c → c < e → I3 155 (49 * k + c) = bi (mFr I (I 154 k) m c)) (I 149 0 * I 149 1) 0 I2 (by omega) ⟨hJ.1, hJ.2, fun c c0 c1 => by omega⟩ ?_ ?_
        · intro I3 hJ3
          obtain ⟨q1, q2, q3⟩ := hJ3
          have e1 := q1 149 (by decide)
          refine Wk.iload (i := 4) (q := 12) (by decide +kernel) rfl rfl ?_
          refine Wk.aload_n (k := 0) (q := 13) (by decide +kernel) rfl rfl rfl ?_
          refine Wk.cVi (q := 16) l_Mod_97 m_Mod_cells (by decide +kernel) (fun _ h => h) O_148 rfl (Nat.le_of_ble_eq_true rfl) (Nat.le_of_ble_eq_true rfl) rfl (c_Mod_cells) rfl ?_
          rw [e1]
          refine Wk.icmp_ge (off := (34)) (t := 50) (q := 19) (by decide +kernel) (by decide) rfl (by first | omega | exact bi_rng _) (by first | omega | exact bi_rng _) (fun hc16 => ?_) (fun hc16 => ?_)
          · refine Wk.iinc (i := 3) (n := 1) (q := 53) (by decide +kernel) rfl (by decide) rfl (fun _ h => h) rfl ?_
            refine Wk.goto (off := (-51)) (q := 2) (by decide +kernel) (by decide) ?_
            refine ih I3 _ ⟨q1, fun j c j0 j1 jc => ?_⟩
            rcases Classical.em (j = k) with e | e
            · rw [e]; exact q3 c jc.1 jc.2
            · exact q2 j c j0 (by omega) jc
          · omega
        · intro e I3 e0 e1 hJ3 ih3
          obtain ⟨q1, q2, q3⟩ := hJ3
          have e4 := q1 149 (by decide)
          have e5 := q1 154 (by decide)
          have hfr := c_Mod_isFree (xs := xs) (d := d) (L := L) (I := I3) (p := I3 154 k) (c := e) (m := m) ((MW_eq e4).mpr hM) ((MP_eq e4).mpr (by rw [e5]; exact hR k k0 k1)) ((mC_eq e4).mpr ⟨e0, e1⟩) hm
          rw [bi_cong (mFr_eq e4), e5] at hfr
          refine Wk.iload (i := 4) (q := 12) (by decide +kernel) rfl rfl ?_
          refine Wk.aload_n (k := 0) (q := 13) (by decide +kernel) rfl rfl rfl ?_
          refine Wk.cVi (q := 16) l_Mod_97 m_Mod_cells (by decide +kernel) (fun _ h => h) O_148 rfl (Nat.le_of_ble_eq_true rfl) (Nat.le_of_ble_eq_true rfl) rfl (c_Mod_cells) rfl ?_
          rw [e4]
          refine Wk.icmp_ge (off := (34)) (t := 50) (q := 19) (by decide +kernel) (by decide) rfl (by first | omega | exact bi_rng _) (by first | omega | exact bi_rng _) (fun hc16 => ?_) (fun hc16 => ?_)
          · omega
          · refine Wk.aload_n (k := 0) (q := 20) (by decide +kernel) rfl rfl rfl ?_
            refine Wk.getR (r := 155) (q := 23) f_Mod_28 (by decide +kernel) O_148 (by decide) rfl rfl rfl ?_
            refine Wk.bipush (n := 49) (q := 25) (by decide +kernel) (by decide +kernel) rfl ?_
            refine Wk.iload_n (k := 3) (q := 26) (by decide +kernel) rfl rfl rfl ?_
            refine Wk.imul (q := 27) (by decide +kernel) rfl ?_
            refine Wk.iload (i := 4) (q := 29) (by decide +kernel) rfl rfl ?_
            refine Wk.iadd (q := 30) (by decide +kernel) rfl ?_
            refine Wk.aload_n (k := 0) (q := 31) (by decide +kernel) rfl rfl rfl ?_
            refine Wk.aload_n (k := 0) (q := 32) (by decide +kernel) rfl rfl rfl ?_
            refine Wk.getR (r := 154) (q := 35) f_Mod_25 (by decide +kernel) O_148 (by decide) rfl rfl rfl ?_
            refine Wk.iload_n (k := 3) (q := 36) (by decide +kernel) rfl rfl rfl ?_
            refine Wk.iaload (q := 37) (by decide +kernel) A_154 (by first | omega | exact bi_rng _) (by first | omega | exact bi_rng _) rfl ?_
            rw [e5]
            refine Wk.iload (i := 4) (q := 39) (by decide +kernel) rfl rfl ?_
            refine Wk.iload_n (k := 2) (q := 40) (by decide +kernel) rfl rfl rfl ?_
            refine Wk.cVi (q := 43) l_Mod_103 m_Mod_isFree (by decide +kernel) (fun _ h => h) O_148 rfl (Nat.le_of_ble_eq_true rfl) (Nat.le_of_ble_eq_true rfl) rfl (hfr) rfl ?_
            refine Wk.bastore (q := 44) (by decide +kernel) A_155 (by first | omega | exact bi_rng _) (by first | omega | exact bi_rng _) (by exact bi_01 _) rfl ?_
            refine Wk.iinc (i := 4) (n := 1) (q := 47) (by decide +kernel) rfl (by decide) rfl (fun _ h => h) rfl ?_
            refine Wk.goto (off := (-37)) (q := 10) (by decide +kernel) (by decide) ?_
            refine ih3 _ ⟨q1.up _ _, fun j c j0 j1 jc => ?_, fun c c0 c1 => ?_⟩
            · have := jc.1; have := jc.2
              rw [iup_ne (by omega)]
              exact q2 j c j0 j1 jc
            · rcases Classical.em (c = e) with z | z
              · rw [z, iup_at]
              · rw [iup_ne (by omega)]
                exact q3 c c0 (by omega)
      refine Wk.iload_n (k := 3) (q := 3) (by decide +kernel) rfl rfl rfl ?_
      refine Wk.iload_n (k := 1) (q := 4) (by decide +kernel) rfl rfl rfl ?_
      refine Wk.icmp_ge (off := (52)) (t := 56) (q := 7) (by decide +kernel) (by decide) rfl (by first | omega | exact bi_rng _) (by first | omega | exact bi_rng _) (fun hc4 => ?_) (fun hc4 => ?_)
      · omega
      · refine Wk.iconst (n := 0) (q := 8) (by decide +kernel) rfl ?_
        refine Wk.istore (i := 4) (q := 10) (by decide +kernel) (by decide) rfl (fun _ h => h) rfl ?_
        exact key2
  refine Wk.iconst (n := 0) (q := 1) (by decide +kernel) rfl ?_
  refine Wk.istore_n (k := 3) (q := 2) (by decide +kernel) rfl (by decide) rfl (fun _ h => h) rfl ?_
  exact key
end MOE
