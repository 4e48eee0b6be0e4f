/-! ships that go: slots move down -/
/-- slots a to k - 1 hold what the next ones held -/
def shA (I : IM) (a k : Int) : IM := fun c b => if (3 ≤ c ∧ c ≤ 7) ∧ a ≤ b ∧ b < k then I c (b + 1) else I c b
theorem shA_0 (I : IM) (a : Int) : shA I a a = I := by
  funext c b
  simp only [shA]
  rw [if_neg (by omega)]
theorem shA_step {I : IM} {a k : Int} (h : a ≤ k) : cpS (shA I a k) (k + 1) k = shA I a (k + 1) := by
  funext c b
  by_cases hb : b = k
  · subst hb
    by_cases hc : 3 ≤ c ∧ c ≤ 7
    · have h5 : c = 3 ∨ c = 4 ∨ c = 5 ∨ c = 6 ∨ c = 7 := by omega
      have e1 : ¬ (b + 1 < b) := by omega
      have e2 : b < b + 1 := by omega
      rcases h5 with rfl | rfl | rfl | rfl | rfl <;> simp [cpS, iup, shA, h, e1, e2]
    · have h5 : c ≠ 3 ∧ c ≠ 4 ∧ c ≠ 5 ∧ c ≠ 6 ∧ c ≠ 7 := by omega
      simp only [cpS, iup, shA, h5.1, h5.2.1, h5.2.2.1, h5.2.2.2.1, h5.2.2.2.2, false_and, if_false]
      rw [if_neg (by omega), if_neg (by omega)]
  · simp only [cpS, iup, shA, hb, and_false, if_false]
    by_cases hc : (3 ≤ c ∧ c ≤ 7) ∧ a ≤ b ∧ b < k
    · rw [if_pos hc, if_pos (by omega)]
    · rw [if_neg hc, if_neg (by omega)]
theorem shA_1 (I : IM) (a k b : Int) : shA I a k 1 b = I 1 b := by
  simp [shA]
def dropA (I : IM) (a : Int) : IM := iup (shA I a (I 1 4 - 1)) 1 4 (I 1 4 - 1)
def dropW (I : IM) (k : Int) : IM := iup (shA I (5 + k) (5 + I 1 5 - 1)) 1 5 (I 1 5 - 1)
section DR
variable {xs : RO} {d : Nat} {I : IM} {L : LM}

theorem c_Harb_dropAnchored {a : Int} (h0 : 0 ≤ a) (h1 : a < I 1 4) (hA : I 1 4 ≤ 5) : Wk xs x_Harb_dropAnchored (d + 1) 0 0 0 [some (vr 1), some (vi a), none] [] X2 I L (pV (dropA I a) L) := by
  have key : Wk xs x_Harb_dropAnchored (d + 1) 0 0 11 [some (vr 1), some (vi a), some (vi a)] [] X2 I L (pV (dropA I a) L) := by
    have h2 := loopI (fun k => Wk xs x_Harb_dropAnchored (d + 1) 0 0 11 [some (vr 1), some (vi a), some (vi k)] [] X2 (shA I a k) L (pV (dropA I a) L)) (I 1 4 - 1) a (by omega) ?_ ?_
    · rw [shA_0] at h2
      exact h2
    · have e := shA_1 I a (I 1 4 - 1) 4
      refine Wk.iload_n (k := 2) (q := 12) (by decide +kernel) rfl rfl rfl ?_
      refine Wk.iconst (n := 1) (q := 13) (by decide +kernel) rfl ?_
      refine Wk.iadd (q := 14) (by decide +kernel) rfl ?_
      refine Wk.aload_n (k := 0) (q := 15) (by decide +kernel) rfl rfl rfl ?_
      refine Wk.getI (z := 4) (q := 18) f_Harb_47 (by decide +kernel) O_1 (by decide) rfl rfl rfl ?_
      refine Wk.icmp_ge (off := (17)) (t := 35) (q := 21) (by decide +kernel) (by decide) rfl (by first | omega | exact bi_rng _) (by first | omega | exact bi_rng _) (fun hc18 => ?_) (fun hc18 => ?_)
      · refine Wk.aload_n (k := 0) (q := 36) (by decide +kernel) rfl rfl rfl ?_
        refine Wk.dup (q := 37) (by decide +kernel) rfl rfl ?_
        refine Wk.getI (z := 4) (q := 40) f_Harb_47 (by decide +kernel) O_1 (by decide) rfl rfl rfl ?_
        refine Wk.iconst (n := 1) (q := 41) (by decide +kernel) rfl ?_
        refine Wk.isub (q := 42) (by decide +kernel) rfl ?_
        refine Wk.putI (z := 4) (q := 45) f_Harb_47 fw_Harb_4 (by decide +kernel) O_1 (by decide) rfl rfl ⟨rfl, rfl⟩ rfl ?_
        exact Wk.rV (by decide +kernel) rfl (by rw [e]; rfl) rfl
      · omega
    · intro k g0 g1 ih
      have e := shA_1 I a k 4
      refine Wk.iload_n (k := 2) (q := 12) (by decide +kernel) rfl rfl rfl ?_
      refine Wk.iconst (n := 1) (q := 13) (by decide +kernel) rfl ?_
      refine Wk.iadd (q := 14) (by decide +kernel) rfl ?_
      refine Wk.aload_n (k := 0) (q := 15) (by decide +kernel) rfl rfl rfl ?_
      refine Wk.getI (z := 4) (q := 18) f_Harb_47 (by decide +kernel) O_1 (by decide) rfl rfl rfl ?_
      refine Wk.icmp_ge (off := (17)) (t := 35) (q := 21) (by decide +kernel) (by decide) rfl (by first | omega | exact bi_rng _) (by first | omega | exact bi_rng _) (fun hc18 => ?_) (fun hc18 => ?_)
      · omega
      · refine Wk.aload_n (k := 0) (q := 22) (by decide +kernel) rfl rfl rfl ?_
        refine Wk.iload_n (k := 2) (q := 23) (by decide +kernel) rfl rfl rfl ?_
        refine Wk.iconst (n := 1) (q := 24) (by decide +kernel) rfl ?_
        refine Wk.iadd (q := 25) (by decide +kernel) rfl ?_
        refine Wk.iload_n (k := 2) (q := 26) (by decide +kernel) rfl rfl rfl ?_
        refine Wk.cVv (q := 29) l_Harb_86 m_Harb_copySlot (by decide +kernel) (fun _ h => h) O_1 rfl (Nat.le_of_ble_eq_true rfl) (Nat.le_of_ble_eq_true rfl) rfl (c_Harb_copySlot (by omega) (by omega)) rfl ?_
        refine Wk.iinc (i := 2) (n := 1) (q := 32) (by decide +kernel) rfl (by decide) rfl (fun _ h => h) rfl ?_
        refine Wk.goto (off := (-21)) (q := 11) (by decide +kernel) (by decide) ?_
        rw [shA_step g0]
        exact ih
  refine Wk.aload_n (k := 0) (q := 1) (by decide +kernel) rfl rfl rfl ?_
  refine Wk.iload_n (k := 1) (q := 2) (by decide +kernel) rfl rfl rfl ?_
  refine Wk.cVi (q := 5) l_Harb_59 m_Harb_hasAnchored (by decide +kernel) (fun _ h => h) O_1 rfl (Nat.le_of_ble_eq_true rfl) (Nat.le_of_ble_eq_true rfl) rfl (c_Harb_hasAnchored (by omega) (by omega)) rfl ?_
  refine Wk.ifB_ne (off := (4)) (t := 9) (q := 8) (by decide +kernel) (by decide) rfl (fun hc5 => ?_) (fun hc5 => ?_)
  · refine Wk.iload_n (k := 1) (q := 10) (by decide +kernel) rfl rfl rfl ?_
    refine Wk.istore_n (k := 2) (q := 11) (by decide +kernel) rfl (by decide) rfl (fun _ h => h) rfl ?_
    exact key
  · exact Wk.rV (by decide +kernel) rfl (absurd ⟨h0, h1⟩ hc5) rfl
theorem c_Harb_dropWaiting {a : Int} (h0 : 0 ≤ a) (h1 : a < I 1 5) (hA : I 1 5 ≤ 3) : Wk xs x_Harb_dropWaiting (d + 1) 0 0 0 [some (vr 1), some (vi a), none] [] X2 I L (pV (dropW I a) L) := by
  have key : Wk xs x_Harb_dropWaiting (d + 1) 0 0 13 [some (vr 1), some (vi a), some (vi (5 + a))] [] X2 I L (pV (dropW I a) L) := by
    have h2 := loopI (fun k => Wk xs x_Harb_dropWaiting (d + 1) 0 0 13 [some (vr 1), some (vi a), some (vi k)] [] X2 (shA I (5 + a) k) L (pV (dropW I a) L)) (5 + I 1 5 - 1) (5 + a) (by omega) ?_ ?_
    · rw [shA_0] at h2
      exact h2
    · have e := shA_1 I (5 + a) (5 + I 1 5 - 1) 5
      refine Wk.iload_n (k := 2) (q := 14) (by decide +kernel) rfl rfl rfl ?_
      refine Wk.iconst (n := 1) (q := 15) (by decide +kernel) rfl ?_
      refine Wk.iadd (q := 16) (by decide +kernel) rfl ?_
      refine Wk.iconst (n := 5) (q := 17) (by decide +kernel) rfl ?_
      refine Wk.aload_n (k := 0) (q := 18) (by decide +kernel) rfl rfl rfl ?_
      refine Wk.getI (z := 5) (q := 21) f_Harb_50 (by decide +kernel) O_1 (by decide) rfl rfl rfl ?_
      refine Wk.iadd (q := 22) (by decide +kernel) rfl ?_
      refine Wk.icmp_ge (off := (17)) (t := 39) (q := 25) (by decide +kernel) (by decide) rfl (by first | omega | exact bi_rng _) (by first | omega | exact bi_rng _) (fun hc22 => ?_) (fun hc22 => ?_)
      · refine Wk.aload_n (k := 0) (q := 40) (by decide +kernel) rfl rfl rfl ?_
        refine Wk.dup (q := 41) (by decide +kernel) rfl rfl ?_
        refine Wk.getI (z := 5) (q := 44) f_Harb_50 (by decide +kernel) O_1 (by decide) rfl rfl rfl ?_
        refine Wk.iconst (n := 1) (q := 45) (by decide +kernel) rfl ?_
        refine Wk.isub (q := 46) (by decide +kernel) rfl ?_
        refine Wk.putI (z := 5) (q := 49) f_Harb_50 fw_Harb_5 (by decide +kernel) O_1 (by decide) rfl rfl ⟨rfl, rfl⟩ rfl ?_
        exact Wk.rV (by decide +kernel) rfl (by rw [e]; rfl) rfl
      · omega
    · intro k g0 g1 ih
      have e := shA_1 I (5 + a) k 5
      refine Wk.iload_n (k := 2) (q := 14) (by decide +kernel) rfl rfl rfl ?_
      refine Wk.iconst (n := 1) (q := 15) (by decide +kernel) rfl ?_
      refine Wk.iadd (q := 16) (by decide +kernel) rfl ?_
      refine Wk.iconst (n := 5) (q := 17) (by decide +kernel) rfl ?_
      refine Wk.aload_n (k := 0) (q := 18) (by decide +kernel) rfl rfl rfl ?_
      refine Wk.getI (z := 5) (q := 21) f_Harb_50 (by decide +kernel) O_1 (by decide) rfl rfl rfl ?_
      refine Wk.iadd (q := 22) (by decide +kernel) rfl ?_
      refine Wk.icmp_ge (off := (17)) (t := 39) (q := 25) (by decide +kernel) (by decide) rfl (by first | omega | exact bi_rng _) (by first | omega | exact bi_rng _) (fun hc22 => ?_) (fun hc22 => ?_)
      · omega
      · refine Wk.aload_n (k := 0) (q := 26) (by decide +kernel) rfl rfl rfl ?_
        refine Wk.iload_n (k := 2) (q := 27) (by decide +kernel) rfl rfl rfl ?_
        refine Wk.iconst (n := 1) (q := 28) (by decide +kernel) rfl ?_
        refine Wk.iadd (q := 29) (by decide +kernel) rfl ?_
        refine Wk.iload_n (k := 2) (q := 30) (by decide +kernel) rfl rfl rfl ?_
        refine Wk.cVv (q := 33) l_Harb_86 m_Harb_copySlot (by decide +kernel) (fun _ h => h) O_1 rfl (Nat.le_of_ble_eq_true rfl) (Nat.le_of_ble_eq_true rfl) rfl (c_Harb_copySlot (by omega) (by omega)) rfl ?_
        refine Wk.iinc (i := 2) (n := 1) (q := 36) (by decide +kernel) rfl (by decide) rfl (fun _ h => h) rfl ?_
        refine Wk.goto (off := (-23)) (q := 13) (by decide +kernel) (by decide) ?_
        rw [shA_step g0]
        exact ih
  refine Wk.aload_n (k := 0) (q := 1) (by decide +kernel) rfl rfl rfl ?_
  refine Wk.iload_n (k := 1) (q := 2) (by decide +kernel) rfl rfl rfl ?_
  refine Wk.cVi (q := 5) l_Harb_63 m_Harb_hasWaiting (by decide +kernel) (fun _ h => h) O_1 rfl (Nat.le_of_ble_eq_true rfl) (Nat.le_of_ble_eq_true rfl) rfl (c_Harb_hasWaiting (by omega) (by omega)) rfl ?_
  refine Wk.ifB_ne (off := (4)) (t := 9) (q := 8) (by decide +kernel) (by decide) rfl (fun hc5 => ?_) (fun hc5 => ?_)
  · refine Wk.iconst (n := 5) (q := 10) (by decide +kernel) rfl ?_
    refine Wk.iload_n (k := 1) (q := 11) (by decide +kernel) rfl rfl rfl ?_
    refine Wk.iadd (q := 12) (by decide +kernel) rfl ?_
    refine Wk.istore_n (k := 2) (q := 13) (by decide +kernel) rfl (by decide) rfl (fun _ h => h) rfl ?_
    exact key
  · exact Wk.rV (by decide +kernel) rfl (absurd ⟨h0, h1⟩ hc5) rfl
/-- one that waits comes to anchor at a spot, behind the others -/
def toAnch (I : IM) (k p : Int) : IM := dropW (iup (iup (iup (cpS I (5 + k) (I 1 4)) 6 (I 1 4) (p % 8)) 7 (I 1 4) (p / 8)) 1 4 (I 1 4 + 1)) k
theorem c_Harb_bringToAnchor {k p : Int} (h0 : 0 ≤ k) (h1 : k < I 1 5) (hA : I 1 5 ≤ 3) (h4 : 0 ≤ I 1 4 ∧ I 1 4 < 5) (hp : 0 ≤ p ∧ p < 64) : Wk xs x_Harb_bringToAnchor (d + 2) 0 0 0 [some (vr 1), some (vi k), some (vi p)] [] X2 I L (pV (toAnch I k p) L) := by
  refine Wk.aload_n (k := 0) (q := 1) (by decide +kernel) rfl rfl rfl ?_
  refine Wk.iload_n (k := 1) (q := 2) (by decide +kernel) rfl rfl rfl ?_
  refine Wk.cVi (q := 5) l_Harb_63 m_Harb_hasWaiting (by decide +kernel) (fun _ h => h) O_1 rfl (Nat.le_of_ble_eq_true rfl) (Nat.le_of_ble_eq_true rfl) rfl (c_Harb_hasWaiting (by omega) (by omega)) rfl ?_
  refine Wk.ifB_eq (off := (11)) (t := 16) (q := 8) (by decide +kernel) (by decide) rfl (fun hc5 => ?_) (fun hc5 => ?_)
  · exact Wk.rV (by decide +kernel) rfl (by first | omega | exact absurd ⟨h0, h1⟩ hc5) rfl
  · refine Wk.aload_n (k := 0) (q := 9) (by decide +kernel) rfl rfl rfl ?_
    refine Wk.getI (z := 4) (q := 12) f_Harb_47 (by decide +kernel) O_1 (by decide) rfl rfl rfl ?_
    refine Wk.iconst (n := 5) (q := 13) (by decide +kernel) rfl ?_
    refine Wk.icmp_lt (off := (4)) (t := 17) (q := 16) (by decide +kernel) (by decide) rfl (by first | omega | exact bi_rng _) (by first | omega | exact bi_rng _) (fun hc13 => ?_) (fun hc13 => ?_)
    · refine Wk.aload_n (k := 0) (q := 18) (by decide +kernel) rfl rfl rfl ?_
      refine Wk.iconst (n := 5) (q := 19) (by decide +kernel) rfl ?_
      refine Wk.iload_n (k := 1) (q := 20) (by decide +kernel) rfl rfl rfl ?_
      refine Wk.iadd (q := 21) (by decide +kernel) rfl ?_
      refine Wk.aload_n (k := 0) (q := 22) (by decide +kernel) rfl rfl rfl ?_
      refine Wk.getI (z := 4) (q := 25) f_Harb_47 (by decide +kernel) O_1 (by decide) rfl rfl rfl ?_
      refine Wk.cVv (q := 28) l_Harb_86 m_Harb_copySlot (by decide +kernel) (fun _ h => h) O_1 rfl (Nat.le_of_ble_eq_true rfl) (Nat.le_of_ble_eq_true rfl) rfl (c_Harb_copySlot (by omega) (by omega)) rfl ?_
      refine Wk.aload_n (k := 0) (q := 29) (by decide +kernel) rfl rfl rfl ?_
      refine Wk.aload_n (k := 0) (q := 30) (by decide +kernel) rfl rfl rfl ?_
      refine Wk.getI (z := 4) (q := 33) f_Harb_47 (by decide +kernel) O_1 (by decide) rfl rfl rfl ?_
      refine Wk.iload_n (k := 2) (q := 34) (by decide +kernel) rfl rfl rfl ?_
      refine Wk.cVv (q := 37) l_Harb_89 m_Harb_putAt (by decide +kernel) (fun _ h => h) O_1 rfl (Nat.le_of_ble_eq_true rfl) (Nat.le_of_ble_eq_true rfl) rfl (c_Harb_putAt (by show 0 ≤ I 1 4 ∧ I 1 4 < 8; omega) (by omega)) rfl ?_
      refine Wk.aload_n (k := 0) (q := 38) (by decide +kernel) rfl rfl rfl ?_
      refine Wk.dup (q := 39) (by decide +kernel) rfl rfl ?_
      refine Wk.getI (z := 4) (q := 42) f_Harb_47 (by decide +kernel) O_1 (by decide) rfl rfl rfl ?_
      refine Wk.iconst (n := 1) (q := 43) (by decide +kernel) rfl ?_
      refine Wk.iadd (q := 44) (by decide +kernel) rfl ?_
      refine Wk.putI (z := 4) (q := 47) f_Harb_47 fw_Harb_4 (by decide +kernel) O_1 (by decide) rfl rfl ⟨rfl, rfl⟩ rfl ?_
      refine Wk.aload_n (k := 0) (q := 48) (by decide +kernel) rfl rfl rfl ?_
      refine Wk.iload_n (k := 1) (q := 49) (by decide +kernel) rfl rfl rfl ?_
      refine Wk.cVv (q := 52) l_Harb_92 m_Harb_dropWaiting (by decide +kernel) (fun _ h => h) O_1 rfl (Nat.le_of_ble_eq_true rfl) (Nat.le_of_ble_eq_true rfl) rfl (c_Harb_dropWaiting h0 (by show k < I 1 5; omega) (by show I 1 5 ≤ 3; omega)) rfl ?_
      exact Wk.rV (by decide +kernel) rfl (rfl) rfl
    · exact Wk.rV (by decide +kernel) rfl (by first | omega | exact absurd ⟨h0, h1⟩ hc5) rfl
/-- THE SEED's step -/
def nextSeed (s : Int) : Int := (s * 1103515245 + 12345) % 2147483648
theorem seed_and (s : Int) : (nZ (s * 1103515245 + 12345) &&& nZ 2147483647).toInt = nextSeed s := by
  rw [pk_and (nZ (s * 1103515245 + 12345)) 31 (by decide +kernel)]
  have hlt := Nat.mod_lt (nZ (s * 1103515245 + 12345)).toBitVec.toNat (show 0 < 2 ^ 31 by omega)
  rw [nI_toInt hlt]
  have e : ((nZ (s * 1103515245 + 12345)).toBitVec.toNat : Int) = (s * 1103515245 + 12345) % 4294967296 := by
    show ((BitVec.ofInt 32 (s * 1103515245 + 12345)).toNat : Int) = _
    rw [BitVec.toNat_ofInt]
    have : (0 : Int) ≤ (s * 1103515245 + 12345) % ((2 ^ 32 : Nat) : Int) := Int.emod_nonneg _ (by decide)
    rw [Int.toNat_of_nonneg this]
    rfl
  rw [Int.natCast_emod, e, nextSeed]
  have e2 : ((2 ^ 31 : Nat) : Int) = 2147483648 := by decide
  rw [e2]
  omega
theorem nextSeed_range (s : Int) : 0 ≤ nextSeed s ∧ nextSeed s ≤ 2147483647 := by unfold nextSeed; omega
theorem c_Sw_draw {n : Int} (h0 : 0 < n) (h1 : n ≤ 100) : Wk xs x_Sw_draw d 0 0 0 [some (vr 0), some (vi n)] [] X2 I L (p2 fun v I' L' => v = some (vi (nextSeed (I 0 5) / 65536 % n)) ∧ I' = iup I 0 5 (nextSeed (I 0 5)) ∧ L' = L) := by
  have hr := nextSeed_range (I 0 5)
  refine Wk.aload_n (k := 0) (q := 1) (by decide +kernel) rfl rfl rfl ?_
  refine Wk.aload_n (k := 0) (q := 2) (by decide +kernel) rfl rfl rfl ?_
  refine Wk.getI (z := 5) (q := 5) f_Sw_44 (by decide +kernel) O_0 (by decide) rfl rfl rfl ?_
  refine Wk.ldcw (z := 1103515245) (q := 8) k_Sw_273 (by decide +kernel) (by decide +kernel) rfl ?_
  refine Wk.imul (q := 9) (by decide +kernel) rfl ?_
  refine Wk.sipush (n := 12345) (q := 12) (by decide +kernel) (by decide +kernel) rfl ?_
  refine Wk.iadd (q := 13) (by decide +kernel) rfl ?_
  refine Wk.ldcw (z := 2147483647) (q := 16) k_Sw_274 (by decide +kernel) (by decide +kernel) rfl ?_
  refine Wk.iand (q := 17) (by decide +kernel) rfl ?_
  rw [seed_and]
  refine Wk.putI (z := 5) (q := 20) f_Sw_44 fw_Sw_5 (by decide +kernel) O_0 (by decide) rfl rfl ⟨rfl, rfl⟩ rfl ?_
  refine Wk.iload_n (k := 1) (q := 21) (by decide +kernel) rfl rfl rfl ?_
  refine Wk.if_le (off := (16)) (t := 37) (q := 24) (by decide +kernel) (by decide) rfl (by first | omega | exact bi_rng _) (fun hc21 => ?_) (fun hc21 => ?_)
  · refine Wk.iconst (n := 0) (q := 38) (by decide +kernel) rfl ?_
    exact Wk.riP (by decide +kernel) rfl (by first | omega | exact ⟨rfl, rfl, rfl⟩)
  · refine Wk.aload_n (k := 0) (q := 25) (by decide +kernel) rfl rfl rfl ?_
    refine Wk.getI (z := 5) (q := 28) f_Sw_44 (by decide +kernel) O_0 (by decide) rfl rfl rfl ?_
    refine Wk.ldcw (z := 65536) (q := 31) k_Sw_275 (by decide +kernel) (by decide +kernel) rfl ?_
    refine Wk.idiv (q := 32) (by decide +kernel) (by first | omega | (show 0 ≤ nextSeed (I 0 5) ∧ nextSeed (I 0 5) ≤ 2147483647; omega)) (by first | omega | (show 0 ≤ nextSeed (I 0 5) ∧ nextSeed (I 0 5) ≤ 2147483647; omega)) rfl ?_
    refine Wk.iload_n (k := 1) (q := 33) (by decide +kernel) rfl rfl rfl ?_
    refine Wk.irem (q := 34) (by decide +kernel) (by first | omega | (show 0 ≤ nextSeed (I 0 5) / 65536 ∧ nextSeed (I 0 5) / 65536 ≤ 2147483647; omega)) (by first | omega | (show 0 ≤ nextSeed (I 0 5) / 65536 ∧ nextSeed (I 0 5) / 65536 ≤ 2147483647; omega)) rfl ?_
    refine Wk.goto (off := (4)) (q := 38) (by decide +kernel) (by decide) ?_
    exact Wk.riP (by decide +kernel) rfl (by first | omega | exact ⟨rfl, rfl, rfl⟩)
end DR
