/-! THE REFERENCE: what its deeds write -/
theorem Wk.lrem {xs : RO} {cx : CX} {d bc bs pc q : Nat} {lv : List (Option AV)} {st : List AV} {X : LY} {I : IM} {L : LM} {post : Option AV → LY → IM → LM → Prop} {a b : Int64} (hd : decode (cxC cx) pc = .ok (.lrem, 1)) (hb : ¬ b = 0) (hq : pc + 1 = q) (k : Wk xs cx d bc bs q lv (vl (a - a / b * b) :: st) X I L post) : Wk xs cx d bc bs pc lv (vl b :: vl a :: st) X I L post := by
  subst hq
  exact Wk.go1 (fun _ g _ _ _ _ _ _ _ _ _ _ _ _ _ _ ls hF _ _ _ hl k => lv_lrem hF.1 hF.2.1 hd hb k) k
def cpR (I : IM) (x y n : Int) : IM := fun a b => if a = 149 ∧ y ≤ b ∧ b < y + n then I 149 (x + (b - y)) else I a b
theorem cpR_0 (I : IM) (x y : Int) : cpR I x y 0 = I := by
  funext a b; simp only [cpR]; rw [if_neg (by omega)]
theorem cpR_o {I : IM} {x y n : Int} {a : Nat} (h : ¬ a = 149) : cpR I x y n a = I a := by
  funext b; simp only [cpR, h, false_and, if_false]
theorem cpR_step {I : IM} {x y k : Int} (h0 : 0 ≤ k) (h1 : k < 90) (h : x + 90 ≤ y ∨ y + 90 ≤ x) : iup (cpR I x y k) 149 (y + k) (cpR I x y k 149 (x + k)) = cpR I x y (k + 1) := by
  have e : cpR I x y k 149 (x + k) = I 149 (x + k) := by simp only [cpR, true_and]; rw [if_neg (by omega)]
  rw [e]
  funext a b
  by_cases ha : a = 149
  · subst ha
    by_cases hb : b = y + k
    · subst hb
      rw [iup_at]
      simp only [cpR, true_and]
      rw [if_pos (by omega)]
      congr 1; omega
    · rw [iup_ne (by omega)]
      simp only [cpR, true_and]
      by_cases hc : y ≤ b ∧ b < y + k
      · rw [if_pos hc, if_pos (by omega)]
      · rw [if_neg (by omega), if_neg (by omega)]
  · rw [iup_ne (fun z => ha z.1), cpR_o ha, cpR_o ha]
/-- rows 1 to k - 1 hold what the next ones held -/
def cpRs (I : IM) (k : Int) : IM := fun a b => if a = 149 ∧ 90 ≤ b ∧ b < 90 * k then I 149 (b + 90) else I a b
theorem cpRs_o {I : IM} {k : Int} {a : Nat} (h : ¬ a = 149) : cpRs I k a = I a := by
  funext b; simp only [cpRs, h, false_and, if_false]
theorem cpRs_1 (I : IM) : cpRs I 1 = I := by
  funext a b; simp only [cpRs]; rw [if_neg (by omega)]
theorem cpRs_step {I : IM} {k : Int} (h0 : 1 ≤ k) : cpR (cpRs I k) (90 * (k + 1)) (90 * k) 90 = cpRs I (k + 1) := by
  funext a b
  by_cases ha : a = 149
  · subst ha
    by_cases hc : 90 * k ≤ b ∧ b < 90 * k + 90
    · simp only [cpR, true_and]
      rw [if_pos hc]
      simp only [cpRs, true_and]
      rw [if_neg (by omega), if_pos (by omega)]
      congr 1; omega
    · simp only [cpR, true_and]
      rw [if_neg (by omega)]
      simp only [cpRs, true_and]
      by_cases hd : 90 ≤ b ∧ b < 90 * k
      · rw [if_pos hd, if_pos (by omega)]
      · rw [if_neg (by omega), if_neg (by omega)]
  · rw [cpR_o ha, cpRs_o ha, cpRs_o ha]
def remW (K : Int) (w : Int → Int) : Int → Int := fun b => if K < 16 then (if 90 * (K + 1) ≤ b ∧ b < 90 * (K + 1) + 90 then w (b - 90 * (K + 1)) else w b) else (if 90 ≤ b ∧ b < 1440 then w (b + 90) else if 1440 ≤ b ∧ b < 1530 then w (b - 1440) else w b)
def remM (I : IM) : IM := fun a b => if a = 149 then remW (I 148 1) (I 149) b else if a = 148 ∧ b = 1 then min (I 148 1 + 1) 16 else I a b
theorem remM_lt {I : IM} (hK : I 148 1 < 16) : iup (cpR I 0 (90 * (I 148 1 + 1)) 90) 148 1 (I 148 1 + 1) = remM I := by
  funext a b
  by_cases ha : a = 149
  · subst ha
    rw [iup_ne (by omega)]
    simp only [remM, cpR, remW, if_pos hK, if_true, true_and]
    split
    · congr 1; omega
    · rfl
  · by_cases hb : a = 148 ∧ b = 1
    · obtain ⟨rfl, rfl⟩ := hb
      rw [iup_at]
      simp only [remM, if_neg ha, if_true, and_self]
      omega
    · rw [iup_ne hb, cpR_o ha]
      simp only [remM, if_neg ha, if_neg hb]
theorem remM_ge {I : IM} (hK : I 148 1 = 16) : iup (cpR (iup (cpRs I 16) 148 1 (16 - 1)) 0 (90 * (16 - 1 + 1)) 90) 148 1 (16 - 1 + 1) = remM I := by
  funext a b
  by_cases ha : a = 149
  · subst ha
    rw [iup_ne (by omega)]
    have hn : ¬ I 148 1 < 16 := by omega
    simp only [remM, cpR, remW, if_neg hn, if_true, true_and]
    have e : ∀ c, iup (cpRs I 16) 148 1 (16 - 1) 149 c = cpRs I 16 149 c := fun c => iup_ne (by omega)
    rw [e, e]
    simp only [cpRs, true_and]
    by_cases h1 : 90 ≤ b ∧ b < 1440
    · rw [if_neg (by omega), if_pos (by omega), if_pos h1]
    · by_cases h2 : 1440 ≤ b ∧ b < 1530
      · rw [if_pos (by omega), if_neg (by omega), if_neg h1, if_pos h2]
        congr 1; omega
      · rw [if_neg (by omega), if_neg (by omega), if_neg h1, if_neg h2]
  · by_cases hb : a = 148 ∧ b = 1
    · obtain ⟨rfl, rfl⟩ := hb
      rw [iup_at]
      simp only [remM, if_neg ha, if_true, and_self]
      omega
    · rw [iup_ne hb, cpR_o ha, iup_ne hb, cpRs_o ha]
      simp only [remM, if_neg ha, if_neg hb]
/-- one that waits goes; one at anchor goes -/
def shW (I : IM) (f t c v : Int) : IM := fun a b => if a = 149 ∧ b = c then v else if a = 149 ∧ f ≤ b ∧ b < t then I 149 (b + 4) else I a b
theorem shW_0 (I : IM) (f c v : Int) : shW I f f c v = iup I 149 c v := by
  funext a b; simp only [shW, iup]
  split
  · rfl
  · rw [if_neg (by omega)]
theorem shW_step {I : IM} {f t c v : Int} (h : f ≤ t) (hc : c < f) : iup (shW I f t c v) 149 t (shW I f t c v 149 (t + 4)) = shW I f (t + 1) c v := by
  have e : shW I f t c v 149 (t + 4) = I 149 (t + 4) := by simp only [shW, true_and]; rw [if_neg (by omega), if_neg (by omega)]
  rw [e]
  funext a b
  by_cases ha : a = 149
  · subst ha
    by_cases hb : b = t
    · subst hb
      rw [iup_at]
      simp only [shW, true_and]
      rw [if_neg (by omega), if_pos (by omega)]
    · rw [iup_ne (by omega)]
      simp only [shW, true_and]
      by_cases h1 : b = c
      · rw [if_pos h1, if_pos h1]
      · rw [if_neg h1, if_neg h1]
        by_cases h2 : f ≤ b ∧ b < t
        · rw [if_pos h2, if_pos (by omega)]
        · rw [if_neg (by omega), if_neg (by omega)]
  · rw [iup_ne (fun z => ha z.1)]
    simp only [shW, ha, false_and, if_false]
def unw (I : IM) (k : Int) : IM := shW I (75 + 4 * k) (75 + 4 * (I 149 5 - 1)) 5 (I 149 5 - 1)
def lev (I : IM) (a : Int) : IM := shW I (55 + 4 * a) (55 + 4 * (I 149 4 - 1)) 4 (I 149 4 - 1)
/-- one comes to anchor in a cell -/
def mo0 (I : IM) (p q j : Int) : IM := fun a b => if a = 149 ∧ p ≤ b ∧ b < p + j then I 149 (q + (b - p)) else I a b
theorem mo0_0 (I : IM) (p q : Int) : mo0 I p q 0 = I := by
  funext a b; simp only [mo0]; rw [if_neg (by omega)]
theorem mo0_step {I : IM} {p q j : Int} (h0 : 0 ≤ j) (h1 : j < 4) (h : p + 4 ≤ q) : iup (mo0 I p q j) 149 (p + j) (mo0 I p q j 149 (q + j)) = mo0 I p q (j + 1) := by
  have e : mo0 I p q j 149 (q + j) = I 149 (q + j) := by simp only [mo0, true_and]; rw [if_neg (by omega)]
  rw [e]
  funext a b
  by_cases ha : a = 149
  · subst ha
    by_cases hb : b = p + j
    · subst hb
      rw [iup_at]
      simp only [mo0, true_and]
      rw [if_pos (by omega)]
      congr 1; omega
    · rw [iup_ne (by omega)]
      simp only [mo0, true_and]
      by_cases h2 : p ≤ b ∧ b < p + j
      · rw [if_pos h2, if_pos (by omega)]
      · rw [if_neg (by omega), if_neg (by omega)]
  · rw [iup_ne (fun z => ha z.1)]
    simp only [mo0, ha, false_and, if_false]
def moo (I : IM) (k c : Int) : IM := iup (iup (mo0 I (55 + 4 * I 149 4) (75 + 4 * k) 4) 149 (55 + 4 * I 149 4 + 3) c) 149 4 (I 149 4 + 1)
theorem mo0_4 {I : IM} {p q j : Int} (h : 4 < p) : mo0 I p q j 149 4 = I 149 4 := by simp only [mo0, true_and]; rw [if_neg (by omega)]
section MOI
variable {xs : RO} {d : Nat} {I : IM} {L : LM}

theorem c_Mod_copyRow {x y : Int} (hx : 0 ≤ x ∧ x ≤ 1620) (hy : 0 ≤ y ∧ y ≤ 1620) (h : x + 90 ≤ y ∨ y + 90 ≤ x) : Wk xs x_Mod_copyRow d 0 0 0 [some (vr 148), some (vi x), some (vi y), none] [] X2 I L (pV (cpR I x y 90) L) := by
  have key : Wk xs x_Mod_copyRow d 0 0 2 [some (vr 148), some (vi x), some (vi y), some (vi 0)] [] X2 (cpR I x y 0) L (pV (cpR I x y 90) L) := by
    refine loopI (fun k => Wk xs x_Mod_copyRow d 0 0 2 [some (vr 148), some (vi x), some (vi y), some (vi k)] [] X2 (cpR I x y k) L (pV (cpR I x y 90) L)) 90 0 (by omega) ?_ ?_
    · refine Wk.iload_n (k := 3) (q := 3) (by decide +kernel) rfl rfl rfl ?_
      refine Wk.bipush (n := 90) (q := 5) (by decide +kernel) (by decide +kernel) rfl ?_
      refine Wk.icmp_ge (off := (25)) (t := 30) (q := 8) (by decide +kernel) (by decide) rfl (by first | omega | exact bi_rng _) (by first | omega | exact bi_rng _) (fun hc5 => ?_) (fun hc5 => ?_)
      · exact Wk.rV (by decide +kernel) rfl (rfl) rfl
      · omega
    · intro k k0 k1 ih
      refine Wk.iload_n (k := 3) (q := 3) (by decide +kernel) rfl rfl rfl ?_
      refine Wk.bipush (n := 90) (q := 5) (by decide +kernel) (by decide +kernel) rfl ?_
      refine Wk.icmp_ge (off := (25)) (t := 30) (q := 8) (by decide +kernel) (by decide) rfl (by first | omega | exact bi_rng _) (by first | omega | exact bi_rng _) (fun hc5 => ?_) (fun hc5 => ?_)
      · omega
      · refine Wk.aload_n (k := 0) (q := 9) (by decide +kernel) rfl rfl rfl ?_
        refine Wk.getR (r := 149) (q := 12) f_Mod_7 (by decide +kernel) O_148 (by decide) rfl rfl rfl ?_
        refine Wk.iload_n (k := 2) (q := 13) (by decide +kernel) rfl rfl rfl ?_
        refine Wk.iload_n (k := 3) (q := 14) (by decide +kernel) rfl rfl rfl ?_
        refine Wk.iadd (q := 15) (by decide +kernel) rfl ?_
        refine Wk.aload_n (k := 0) (q := 16) (by decide +kernel) rfl rfl rfl ?_
        refine Wk.getR (r := 149) (q := 19) f_Mod_7 (by decide +kernel) O_148 (by decide) rfl rfl rfl ?_
        refine Wk.iload_n (k := 1) (q := 20) (by decide +kernel) rfl rfl rfl ?_
        refine Wk.iload_n (k := 3) (q := 21) (by decide +kernel) rfl rfl rfl ?_
        refine Wk.iadd (q := 22) (by decide +kernel) rfl ?_
        refine Wk.iaload (q := 23) (by decide +kernel) A_149 (by first | omega | exact bi_rng _) (by first | omega | exact bi_rng _) rfl ?_
        refine Wk.iastore (q := 24) (by decide +kernel) A_149 (by first | omega | exact bi_rng _) (by first | omega | exact bi_rng _) rfl ?_
        refine Wk.iinc (i := 3) (n := 1) (q := 27) (by decide +kernel) rfl (by decide) rfl (fun _ h => h) rfl ?_
        refine Wk.goto (off := (-25)) (q := 2) (by decide +kernel) (by decide) ?_
        rw [cpR_step k0 k1 h]
        exact ih
  refine Wk.iconst (n := 0) (q := 1) (by decide +kernel) rfl ?_
  refine Wk.istore_n (k := 3) (q := 2) (by decide +kernel) rfl (by decide) rfl (fun _ h => h) rfl ?_
  rw [cpR_0] at key
  exact key
theorem c_Mod_remember (h0 : 0 ≤ I 148 1) (h1 : I 148 1 ≤ 16) : Wk xs x_Mod_remember (d + 1) 0 0 0 [some (vr 148), none] [] X2 I L (pV (remM I) L) := by
  have key : I 148 1 = 16 → Wk xs x_Mod_remember (d + 1) 0 0 11 [some (vr 148), some (vi 1)] [] X2 (cpRs I 1) L (pV (remM I) L) := by
    intro hK
    refine loopI (fun k => Wk xs x_Mod_remember (d + 1) 0 0 11 [some (vr 148), some (vi k)] [] X2 (cpRs I k) L (pV (remM I) L)) 16 1 (by omega) ?_ ?_
    · have e : cpRs I 16 148 1 = 16 := by rw [cpRs_o (by decide)]; exact hK
      have e2 : ∀ v, cpR (iup (cpRs I 16) 148 1 v) 0 (90 * (v + 1)) 90 148 1 = v := fun v => by rw [cpR_o (by decide), iup_at]
      refine Wk.iload_n (k := 1) (q := 12) (by decide +kernel) rfl rfl rfl ?_
      refine Wk.bipush (n := 16) (q := 14) (by decide +kernel) (by decide +kernel) rfl ?_
      refine Wk.icmp_ge (off := (23)) (t := 37) (q := 17) (by decide +kernel) (by decide) rfl (by first | omega | exact bi_rng _) (by first | omega | exact bi_rng _) (fun hc14 => ?_) (fun hc14 => ?_)
      · refine Wk.aload_n (k := 0) (q := 38) (by decide +kernel) rfl rfl rfl ?_
        refine Wk.dup (q := 39) (by decide +kernel) rfl rfl ?_
        refine Wk.getI (z := 1) (q := 42) f_Mod_153 (by decide +kernel) O_148 (by decide) rfl rfl rfl ?_
        rw [e]
        refine Wk.iconst (n := 1) (q := 43) (by decide +kernel) rfl ?_
        refine Wk.isub (q := 44) (by decide +kernel) rfl ?_
        refine Wk.putI (z := 1) (q := 47) f_Mod_153 fw_Mod_1 (by decide +kernel) O_148 (by decide) rfl rfl ⟨rfl, rfl⟩ rfl ?_
        refine Wk.aload_n (k := 0) (q := 48) (by decide +kernel) rfl rfl rfl ?_
        refine Wk.iconst (n := 0) (q := 49) (by decide +kernel) rfl ?_
        refine Wk.bipush (n := 90) (q := 51) (by decide +kernel) (by decide +kernel) rfl ?_
        refine Wk.aload_n (k := 0) (q := 52) (by decide +kernel) rfl rfl rfl ?_
        refine Wk.getI (z := 1) (q := 55) f_Mod_153 (by decide +kernel) O_148 (by decide) rfl rfl rfl ?_
        rw [iup_at]
        refine Wk.iconst (n := 1) (q := 56) (by decide +kernel) rfl ?_
        refine Wk.iadd (q := 57) (by decide +kernel) rfl ?_
        refine Wk.imul (q := 58) (by decide +kernel) rfl ?_
        refine Wk.cVv (q := 61) l_Mod_185 m_Mod_copyRow (by decide +kernel) (fun _ h => h) O_148 rfl (Nat.le_of_ble_eq_true rfl) (Nat.le_of_ble_eq_true rfl) rfl (c_Mod_copyRow (by omega) (by omega) (by omega)) rfl ?_
        refine Wk.aload_n (k := 0) (q := 62) (by decide +kernel) rfl rfl rfl ?_
        refine Wk.dup (q := 63) (by decide +kernel) rfl rfl ?_
        refine Wk.getI (z := 1) (q := 66) f_Mod_153 (by decide +kernel) O_148 (by decide) rfl rfl rfl ?_
        rw [e2]
        refine Wk.iconst (n := 1) (q := 67) (by decide +kernel) rfl ?_
        refine Wk.iadd (q := 68) (by decide +kernel) rfl ?_
        refine Wk.putI (z := 1) (q := 71) f_Mod_153 fw_Mod_1 (by decide +kernel) O_148 (by decide) rfl rfl ⟨rfl, rfl⟩ rfl ?_
        exact Wk.rV (by decide +kernel) rfl (remM_ge hK) rfl
      · omega
    · intro k k0 k1 ih
      refine Wk.iload_n (k := 1) (q := 12) (by decide +kernel) rfl rfl rfl ?_
      refine Wk.bipush (n := 16) (q := 14) (by decide +kernel) (by decide +kernel) rfl ?_
      refine Wk.icmp_ge (off := (23)) (t := 37) (q := 17) (by decide +kernel) (by decide) rfl (by first | omega | exact bi_rng _) (by first | omega | exact bi_rng _) (fun hc14 => ?_) (fun hc14 => ?_)
      · omega
      · refine Wk.aload_n (k := 0) (q := 18) (by decide +kernel) rfl rfl rfl ?_
        refine Wk.bipush (n := 90) (q := 20) (by decide +kernel) (by decide +kernel) rfl ?_
        refine Wk.iload_n (k := 1) (q := 21) (by decide +kernel) rfl rfl rfl ?_
        refine Wk.iconst (n := 1) (q := 22) (by decide +kernel) rfl ?_
        refine Wk.iadd (q := 23) (by decide +kernel) rfl ?_
        refine Wk.imul (q := 24) (by decide +kernel) rfl ?_
        refine Wk.bipush (n := 90) (q := 26) (by decide +kernel) (by decide +kernel) rfl ?_
        refine Wk.iload_n (k := 1) (q := 27) (by decide +kernel) rfl rfl rfl ?_
        refine Wk.imul (q := 28) (by decide +kernel) rfl ?_
        refine Wk.cVv (q := 31) l_Mod_185 m_Mod_copyRow (by decide +kernel) (fun _ h => h) O_148 rfl (Nat.le_of_ble_eq_true rfl) (Nat.le_of_ble_eq_true rfl) rfl (c_Mod_copyRow (by omega) (by omega) (by omega)) rfl ?_
        refine Wk.iinc (i := 1) (n := 1) (q := 34) (by decide +kernel) rfl (by decide) rfl (fun _ h => h) rfl ?_
        refine Wk.goto (off := (-23)) (q := 11) (by decide +kernel) (by decide) ?_
        rw [cpRs_step (by omega)]
        exact ih
  refine Wk.aload_n (k := 0) (q := 1) (by decide +kernel) rfl rfl rfl ?_
  refine Wk.getI (z := 1) (q := 4) f_Mod_153 (by decide +kernel) O_148 (by decide) rfl rfl rfl ?_
  refine Wk.bipush (n := 16) (q := 6) (by decide +kernel) (by decide +kernel) rfl ?_
  refine Wk.icmp_ne (off := (41)) (t := 47) (q := 9) (by decide +kernel) (by decide) rfl (by first | omega | exact bi_rng _) (by first | omega | exact bi_rng _) (fun hc6 => ?_) (fun hc6 => ?_)
  · refine Wk.aload_n (k := 0) (q := 48) (by decide +kernel) rfl rfl rfl ?_
    refine Wk.iconst (n := 0) (q := 49) (by decide +kernel) rfl ?_
    refine Wk.bipush (n := 90) (q := 51) (by decide +kernel) (by decide +kernel) rfl ?_
    refine Wk.aload_n (k := 0) (q := 52) (by decide +kernel) rfl rfl rfl ?_
    refine Wk.getI (z := 1) (q := 55) f_Mod_153 (by decide +kernel) O_148 (by decide) rfl rfl rfl ?_
    refine Wk.iconst (n := 1) (q := 56) (by decide +kernel) rfl ?_
    refine Wk.iadd (q := 57) (by decide +kernel) rfl ?_
    refine Wk.imul (q := 58) (by decide +kernel) rfl ?_
    refine Wk.cVv (q := 61) l_Mod_185 m_Mod_copyRow (by decide +kernel) (fun _ h => h) O_148 rfl (Nat.le_of_ble_eq_true rfl) (Nat.le_of_ble_eq_true rfl) rfl (c_Mod_copyRow (by omega) (by omega) (by omega)) rfl ?_
    refine Wk.aload_n (k := 0) (q := 62) (by decide +kernel) rfl rfl rfl ?_
    refine Wk.dup (q := 63) (by decide +kernel) rfl rfl ?_
    refine Wk.getI (z := 1) (q := 66) f_Mod_153 (by decide +kernel) O_148 (by decide) rfl rfl rfl ?_
    rw [cpR_o (by decide)]
    refine Wk.iconst (n := 1) (q := 67) (by decide +kernel) rfl ?_
    refine Wk.iadd (q := 68) (by decide +kernel) rfl ?_
    refine Wk.putI (z := 1) (q := 71) f_Mod_153 fw_Mod_1 (by decide +kernel) O_148 (by decide) rfl rfl ⟨rfl, rfl⟩ rfl ?_
    exact Wk.rV (by decide +kernel) rfl (remM_lt (by omega)) rfl
  · refine Wk.iconst (n := 1) (q := 10) (by decide +kernel) rfl ?_
    refine Wk.istore_n (k := 1) (q := 11) (by decide +kernel) rfl (by decide) rfl (fun _ h => h) rfl ?_
    have k2 := key hc6
    rw [cpRs_1] at k2
    exact k2
theorem c_Mod_put {a v : Int} (h0 : 0 ≤ I 148 1) (h1 : I 148 1 ≤ 16) (ha : 0 ≤ a ∧ a < 90) : Wk xs x_Mod_put (d + 2) 0 0 0 [some (vr 148), some (vi a), some (vi v), none] [] X2 I L (p2 fun u I' L' => u = some (vi (remM I 149 a)) ∧ I' = iup (remM I) 149 a v ∧ L' = L) := by
  refine Wk.aload_n (k := 0) (q := 1) (by decide +kernel) rfl rfl rfl ?_
  refine Wk.cVv (q := 4) l_Mod_188 m_Mod_remember (by decide +kernel) (fun _ h => h) O_148 rfl (Nat.le_of_ble_eq_true rfl) (Nat.le_of_ble_eq_true rfl) rfl (c_Mod_remember h0 h1) rfl ?_
  refine Wk.aload_n (k := 0) (q := 5) (by decide +kernel) rfl rfl rfl ?_
  refine Wk.getR (r := 149) (q := 8) f_Mod_7 (by decide +kernel) O_148 (by decide) rfl rfl rfl ?_
  refine Wk.iload_n (k := 1) (q := 9) (by decide +kernel) rfl rfl rfl ?_
  refine Wk.iaload (q := 10) (by decide +kernel) A_149 (by first | omega | exact bi_rng _) (by first | omega | exact bi_rng _) rfl ?_
  refine Wk.istore_n (k := 3) (q := 11) (by decide +kernel) rfl (by decide) rfl (fun _ h => h) rfl ?_
  refine Wk.aload_n (k := 0) (q := 12) (by decide +kernel) rfl rfl rfl ?_
  refine Wk.getR (r := 149) (q := 15) f_Mod_7 (by decide +kernel) O_148 (by decide) rfl rfl rfl ?_
  refine Wk.iload_n (k := 1) (q := 16) (by decide +kernel) rfl rfl rfl ?_
  refine Wk.iload_n (k := 2) (q := 17) (by decide +kernel) rfl rfl rfl ?_
  refine Wk.iastore (q := 18) (by decide +kernel) A_149 (by first | omega | exact bi_rng _) (by first | omega | exact bi_rng _) rfl ?_
  refine Wk.iload_n (k := 3) (q := 19) (by decide +kernel) rfl rfl rfl ?_
  exact Wk.riP (by decide +kernel) rfl (⟨rfl, rfl, rfl⟩)
theorem c_Mod_begin {w h : Int} : Wk xs x_Mod_begin d 0 0 0 [some (vr 148), some (vi w), some (vi h), none] [] X2 I L (p2 fun v I' L' => v = none ∧ (Ex1 149 I' I ∧ (I' 149 0 = w ∧ I' 149 1 = h ∧ I' 149 4 = 0 ∧ I' 149 5 = 0) ∧ (∀ b, 6 ≤ b → b < 6 + 49 → I' 149 b = 5) ∧ ∀ b, ¬ b = 0 → ¬ b = 1 → ¬ b = 4 → ¬ b = 5 → ¬ (6 ≤ b ∧ b < 55) → I' 149 b = I 149 b) ∧ L' = L) := by
  have key : ∀ I1 : IM, (Ex1 149 I1 I ∧ (I1 149 0 = w ∧ I1 149 1 = h ∧ I1 149 4 = 0 ∧ I1 149 5 = 0) ∧ (∀ b, 6 ≤ b → b < 6 + 0 → I1 149 b = 5) ∧ ∀ b, ¬ b = 0 → ¬ b = 1 → ¬ b = 4 → ¬ b = 5 → ¬ (6 ≤ b ∧ b < 55) → I1 149 b = I 149 b) → Wk xs x_Mod_begin d 0 0 30 [some (vr 148), some (vi w), some (vi h), some (vi 0)] [] X2 I1 L (p2 fun v I' L' => v = none ∧ (Ex1 149 I' I ∧ (I' 149 0 = w ∧ I' 149 1 = h ∧ I' 149 4 = 0 ∧ I' 149 5 = 0) ∧ (∀ b, 6 ≤ b → b < 6 + 49 → I' 149 b = 5) ∧ ∀ b, ¬ b = 0 → ¬ b = 1 → ¬ b = 4 → ¬ b = 5 → ¬ (6 ≤ b ∧ b < 55) → I' 149 b = I 149 b) ∧ L' = L) := by
    intro I1 hI1
    refine loopS (σ := IM) (fun k I2 => Wk xs x_Mod_begin d 0 0 30 [some (vr 148), some (vi w), some (vi h), some (vi k)] [] X2 I2 L (p2 fun v I' L' => v = none ∧ (Ex1 149 I' I ∧ (I' 149 0 = w ∧ I' 149 1 = h ∧ I' 149 4 = 0 ∧ I' 149 5 = 0) ∧ (∀ b, 6 ≤ b → b < 6 + 49 → I' 149 b = 5) ∧ ∀ b, ¬ b = 0 → ¬ b = 1 → ¬ b = 4 → ¬ b = 5 → ¬ (6 ≤ b ∧ b < 55) → I' 149 b = I 149 b) ∧ L' = L)) (fun k I2 => Ex1 149 I2 I ∧ (I2 149 0 = w ∧ I2 149 1 = h ∧ I2 149 4 = 0 ∧ I2 149 5 = 0) ∧ (∀ b, 6 ≤ b → b < 6 + k → I2 149 b = 5) ∧ ∀ b, ¬ b = 0 → ¬ b = 1 → ¬ b = 4 → ¬ b = 5 → ¬ (6 ≤ b ∧ b < 55) → I2 149 b = I 149 b) 49 0 I1 (by omega) hI1 ?_ ?_
    · intro I2 hJ
      refine Wk.iload_n (k := 3) (q := 31) (by decide +kernel) rfl rfl rfl ?_
      refine Wk.bipush (n := 49) (q := 33) (by decide +kernel) (by decide +kernel) rfl ?_
      refine Wk.icmp_ge (off := (19)) (t := 52) (q := 36) (by decide +kernel) (by decide) rfl (by first | omega | exact bi_rng _) (by first | omega | exact bi_rng _) (fun hc33 => ?_) (fun hc33 => ?_)
      · exact Wk.rvP (by decide +kernel) rfl (⟨rfl, hJ, rfl⟩)
      · omega
    · intro k I2 k0 k1 hJ ih
      obtain ⟨j1, ⟨j2, j3, j4, j5⟩, j6, j7⟩ := hJ
      refine Wk.iload_n (k := 3) (q := 31) (by decide +kernel) rfl rfl rfl ?_
      refine Wk.bipush (n := 49) (q := 33) (by decide +kernel) (by decide +kernel) rfl ?_
      refine Wk.icmp_ge (off := (19)) (t := 52) (q := 36) (by decide +kernel) (by decide) rfl (by first | omega | exact bi_rng _) (by first | omega | exact bi_rng _) (fun hc33 => ?_) (fun hc33 => ?_)
      · omega
      · refine Wk.aload_n (k := 0) (q := 37) (by decide +kernel) rfl rfl rfl ?_
        refine Wk.getR (r := 149) (q := 40) f_Mod_7 (by decide +kernel) O_148 (by decide) rfl rfl rfl ?_
        refine Wk.bipush (n := 6) (q := 42) (by decide +kernel) (by decide +kernel) rfl ?_
        refine Wk.iload_n (k := 3) (q := 43) (by decide +kernel) rfl rfl rfl ?_
        refine Wk.iadd (q := 44) (by decide +kernel) rfl ?_
        refine Wk.iconst (n := 5) (q := 45) (by decide +kernel) rfl ?_
        refine Wk.iastore (q := 46) (by decide +kernel) A_149 (by first | omega | exact bi_rng _) (by first | omega | exact bi_rng _) rfl ?_
        refine Wk.iinc (i := 3) (n := 1) (q := 49) (by decide +kernel) rfl (by decide) rfl (fun _ h => h) rfl ?_
        refine Wk.goto (off := (-19)) (q := 30) (by decide +kernel) (by decide) ?_
        refine ih _ ⟨j1.up _ _, ⟨?_, ?_, ?_, ?_⟩, fun b b0 b1 => ?_, fun b b0 b1 b2 b3 b4 => ?_⟩
        · rw [iup_ne (by omega)]; exact j2
        · rw [iup_ne (by omega)]; exact j3
        · rw [iup_ne (by omega)]; exact j4
        · rw [iup_ne (by omega)]; exact j5
        · by_cases hb : b = 6 + k
          · rw [hb, iup_at]
          · rw [iup_ne (by omega)]; exact j6 b b0 (by omega)
        · rw [iup_ne (by omega)]; exact j7 b b0 b1 b2 b3 b4
  refine Wk.aload_n (k := 0) (q := 1) (by decide +kernel) rfl rfl rfl ?_
  refine Wk.getR (r := 149) (q := 4) f_Mod_7 (by decide +kernel) O_148 (by decide) rfl rfl rfl ?_
  refine Wk.iconst (n := 0) (q := 5) (by decide +kernel) rfl ?_
  refine Wk.iload_n (k := 1) (q := 6) (by decide +kernel) rfl rfl rfl ?_
  refine Wk.iastore (q := 7) (by decide +kernel) A_149 (by first | omega | exact bi_rng _) (by first | omega | exact bi_rng _) rfl ?_
  refine Wk.aload_n (k := 0) (q := 8) (by decide +kernel) rfl rfl rfl ?_
  refine Wk.getR (r := 149) (q := 11) f_Mod_7 (by decide +kernel) O_148 (by decide) rfl rfl rfl ?_
  refine Wk.iconst (n := 1) (q := 12) (by decide +kernel) rfl ?_
  refine Wk.iload_n (k := 2) (q := 13) (by decide +kernel) rfl rfl rfl ?_
  refine Wk.iastore (q := 14) (by decide +kernel) A_149 (by first | omega | exact bi_rng _) (by first | omega | exact bi_rng _) rfl ?_
  refine Wk.aload_n (k := 0) (q := 15) (by decide +kernel) rfl rfl rfl ?_
  refine Wk.getR (r := 149) (q := 18) f_Mod_7 (by decide +kernel) O_148 (by decide) rfl rfl rfl ?_
  refine Wk.iconst (n := 4) (q := 19) (by decide +kernel) rfl ?_
  refine Wk.iconst (n := 0) (q := 20) (by decide +kernel) rfl ?_
  refine Wk.iastore (q := 21) (by decide +kernel) A_149 (by first | omega | exact bi_rng _) (by first | omega | exact bi_rng _) rfl ?_
  refine Wk.aload_n (k := 0) (q := 22) (by decide +kernel) rfl rfl rfl ?_
  refine Wk.getR (r := 149) (q := 25) f_Mod_7 (by decide +kernel) O_148 (by decide) rfl rfl rfl ?_
  refine Wk.iconst (n := 5) (q := 26) (by decide +kernel) rfl ?_
  refine Wk.iconst (n := 0) (q := 27) (by decide +kernel) rfl ?_
  refine Wk.iastore (q := 28) (by decide +kernel) A_149 (by first | omega | exact bi_rng _) (by first | omega | exact bi_rng _) rfl ?_
  refine Wk.iconst (n := 0) (q := 29) (by decide +kernel) rfl ?_
  refine Wk.istore_n (k := 3) (q := 30) (by decide +kernel) rfl (by decide) rfl (fun _ h => h) rfl ?_
  exact key _ ⟨((((Ex1.up (fun _ _ => rfl) _ _).up _ _).up _ _).up _ _), ⟨by simp [iup], by simp [iup], by simp [iup], by simp [iup]⟩, fun b b0 b1 => by omega, fun b b0 b1 b2 b3 b4 => by simp [iup, b0, b1, b2, b3]⟩
theorem c_Mod_unwait {k : Int} (h0 : 0 ≤ k) (h1 : k < I 149 5) (h2 : I 149 5 ≤ 3) : Wk xs x_Mod_unwait (d + 1) 0 0 0 [some (vr 148), some (vi k), none] [] X2 I L (pV (unw I k) L) := by
  have e5 : ∀ t, (shW I (75 + 4 * k) t 5 (I 149 5 - 1)) 149 5 = I 149 5 - 1 := fun t => by simp [shW]
  have key : Wk xs x_Mod_unwait (d + 1) 0 0 15 [some (vr 148), some (vi k), some (vi (75 + 4 * k))] [] X2 (shW I (75 + 4 * k) (75 + 4 * k) 5 (I 149 5 - 1)) L (pV (unw I k) L) := by
    refine loopI (fun t => Wk xs x_Mod_unwait (d + 1) 0 0 15 [some (vr 148), some (vi k), some (vi t)] [] X2 (shW I (75 + 4 * k) t 5 (I 149 5 - 1)) L (pV (unw I k) L)) (75 + 4 * (I 149 5 - 1)) (75 + 4 * k) (by omega) ?_ ?_
    · refine Wk.iload_n (k := 2) (q := 16) (by decide +kernel) rfl rfl rfl ?_
      refine Wk.aload_n (k := 0) (q := 17) (by decide +kernel) rfl rfl rfl ?_
      refine Wk.getR (r := 149) (q := 20) f_Mod_7 (by decide +kernel) O_148 (by decide) rfl rfl rfl ?_
      refine Wk.iconst (n := 5) (q := 21) (by decide +kernel) rfl ?_
      refine Wk.iaload (q := 22) (by decide +kernel) A_149 (by first | omega | exact bi_rng _) (by first | omega | exact bi_rng _) rfl ?_
      rw [e5]
      refine Wk.cSi (q := 25) l_Mod_100 m_Mod_waitAt (by decide +kernel) (fun _ h => h) (Nat.le_of_ble_eq_true rfl) (Nat.le_of_ble_eq_true rfl) rfl (c_Mod_waitAt) rfl ?_
      refine Wk.icmp_ge (off := (23)) (t := 48) (q := 28) (by decide +kernel) (by decide) rfl (by first | omega | exact bi_rng _) (by first | omega | exact bi_rng _) (fun hc25 => ?_) (fun hc25 => ?_)
      · exact Wk.rV (by decide +kernel) rfl (rfl) rfl
      · omega
    · intro t t0 t1 ih
      refine Wk.iload_n (k := 2) (q := 16) (by decide +kernel) rfl rfl rfl ?_
      refine Wk.aload_n (k := 0) (q := 17) (by decide +kernel) rfl rfl rfl ?_
      refine Wk.getR (r := 149) (q := 20) f_Mod_7 (by decide +kernel) O_148 (by decide) rfl rfl rfl ?_
      refine Wk.iconst (n := 5) (q := 21) (by decide +kernel) rfl ?_
      refine Wk.iaload (q := 22) (by decide +kernel) A_149 (by first | omega | exact bi_rng _) (by first | omega | exact bi_rng _) rfl ?_
      rw [e5]
      refine Wk.cSi (q := 25) l_Mod_100 m_Mod_waitAt (by decide +kernel) (fun _ h => h) (Nat.le_of_ble_eq_true rfl) (Nat.le_of_ble_eq_true rfl) rfl (c_Mod_waitAt) rfl ?_
      refine Wk.icmp_ge (off := (23)) (t := 48) (q := 28) (by decide +kernel) (by decide) rfl (by first | omega | exact bi_rng _) (by first | omega | exact bi_rng _) (fun hc25 => ?_) (fun hc25 => ?_)
      · omega
      · refine Wk.aload_n (k := 0) (q := 29) (by decide +kernel) rfl rfl rfl ?_
        refine Wk.getR (r := 149) (q := 32) f_Mod_7 (by decide +kernel) O_148 (by decide) rfl rfl rfl ?_
        refine Wk.iload_n (k := 2) (q := 33) (by decide +kernel) rfl rfl rfl ?_
        refine Wk.aload_n (k := 0) (q := 34) (by decide +kernel) rfl rfl rfl ?_
        refine Wk.getR (r := 149) (q := 37) f_Mod_7 (by decide +kernel) O_148 (by decide) rfl rfl rfl ?_
        refine Wk.iload_n (k := 2) (q := 38) (by decide +kernel) rfl rfl rfl ?_
        refine Wk.iconst (n := 4) (q := 39) (by decide +kernel) rfl ?_
        refine Wk.iadd (q := 40) (by decide +kernel) rfl ?_
        refine Wk.iaload (q := 41) (by decide +kernel) A_149 (by first | omega | exact bi_rng _) (by first | omega | exact bi_rng _) rfl ?_
        refine Wk.iastore (q := 42) (by decide +kernel) A_149 (by first | omega | exact bi_rng _) (by first | omega | exact bi_rng _) rfl ?_
        refine Wk.iinc (i := 2) (n := 1) (q := 45) (by decide +kernel) rfl (by decide) rfl (fun _ h => h) rfl ?_
        refine Wk.goto (off := (-30)) (q := 15) (by decide +kernel) (by decide) ?_
        rw [shW_step t0 (by omega)]
        exact ih
  refine Wk.aload_n (k := 0) (q := 1) (by decide +kernel) rfl rfl rfl ?_
  refine Wk.getR (r := 149) (q := 4) f_Mod_7 (by decide +kernel) O_148 (by decide) rfl rfl rfl ?_
  refine Wk.iconst (n := 5) (q := 5) (by decide +kernel) rfl ?_
  refine Wk.dup2 (q := 6) (by decide +kernel) rfl rfl rfl ?_
  refine Wk.iaload (q := 7) (by decide +kernel) A_149 (by first | omega | exact bi_rng _) (by first | omega | exact bi_rng _) rfl ?_
  refine Wk.iconst (n := 1) (q := 8) (by decide +kernel) rfl ?_
  refine Wk.isub (q := 9) (by decide +kernel) rfl ?_
  refine Wk.iastore (q := 10) (by decide +kernel) A_149 (by first | omega | exact bi_rng _) (by first | omega | exact bi_rng _) rfl ?_
  refine Wk.iload_n (k := 1) (q := 11) (by decide +kernel) rfl rfl rfl ?_
  refine Wk.cSi (q := 14) l_Mod_100 m_Mod_waitAt (by decide +kernel) (fun _ h => h) (Nat.le_of_ble_eq_true rfl) (Nat.le_of_ble_eq_true rfl) rfl (c_Mod_waitAt) rfl ?_
  refine Wk.istore_n (k := 2) (q := 15) (by decide +kernel) rfl (by decide) rfl (fun _ h => h) rfl ?_
  rw [shW_0] at key
  exact key
theorem c_Mod_moor {k c : Int} (h0 : 0 ≤ k) (h1 : k < 3) (h2 : 0 ≤ I 149 4) (h3 : I 149 4 ≤ 4) : Wk xs x_Mod_moor (d + 1) 0 0 0 [some (vr 148), some (vi k), some (vi c), none, none] [] X2 I L (pV (moo I k c) L) := by
  have key : Wk xs x_Mod_moor (d + 1) 0 0 13 [some (vr 148), some (vi k), some (vi c), some (vi (55 + 4 * I 149 4)), some (vi 0)] [] X2 (mo0 I (55 + 4 * I 149 4) (75 + 4 * k) 0) L (pV (moo I k c) L) := by
    refine loopI (fun j => Wk xs x_Mod_moor (d + 1) 0 0 13 [some (vr 148), some (vi k), some (vi c), some (vi (55 + 4 * I 149 4)), some (vi j)] [] X2 (mo0 I (55 + 4 * I 149 4) (75 + 4 * k) j) L (pV (moo I k c) L)) 4 0 (by omega) ?_ ?_
    · refine Wk.iload (i := 4) (q := 15) (by decide +kernel) rfl rfl ?_
      refine Wk.iconst (n := 4) (q := 16) (by decide +kernel) rfl ?_
      refine Wk.icmp_ge (off := (30)) (t := 46) (q := 19) (by decide +kernel) (by decide) rfl (by first | omega | exact bi_rng _) (by first | omega | exact bi_rng _) (fun hc16 => ?_) (fun hc16 => ?_)
      · refine Wk.aload_n (k := 0) (q := 47) (by decide +kernel) rfl rfl rfl ?_
        refine Wk.getR (r := 149) (q := 50) f_Mod_7 (by decide +kernel) O_148 (by decide) rfl rfl rfl ?_
        refine Wk.iload_n (k := 3) (q := 51) (by decide +kernel) rfl rfl rfl ?_
        refine Wk.iconst (n := 3) (q := 52) (by decide +kernel) rfl ?_
        refine Wk.iadd (q := 53) (by decide +kernel) rfl ?_
        refine Wk.iload_n (k := 2) (q := 54) (by decide +kernel) rfl rfl rfl ?_
        refine Wk.iastore (q := 55) (by decide +kernel) A_149 (by first | omega | exact bi_rng _) (by first | omega | exact bi_rng _) rfl ?_
        refine Wk.aload_n (k := 0) (q := 56) (by decide +kernel) rfl rfl rfl ?_
        refine Wk.getR (r := 149) (q := 59) f_Mod_7 (by decide +kernel) O_148 (by decide) rfl rfl rfl ?_
        refine Wk.iconst (n := 4) (q := 60) (by decide +kernel) rfl ?_
        refine Wk.dup2 (q := 61) (by decide +kernel) rfl rfl rfl ?_
        refine Wk.iaload (q := 62) (by decide +kernel) A_149 (by first | omega | exact bi_rng _) (by first | omega | exact bi_rng _) rfl ?_
        rw [iup_ne (by omega), mo0_4 (by omega)]
        refine Wk.iconst (n := 1) (q := 63) (by decide +kernel) rfl ?_
        refine Wk.iadd (q := 64) (by decide +kernel) rfl ?_
        refine Wk.iastore (q := 65) (by decide +kernel) A_149 (by first | omega | exact bi_rng _) (by first | omega | exact bi_rng _) rfl ?_
        exact Wk.rV (by decide +kernel) rfl (rfl) rfl
      · omega
    · intro j j0 j1 ih
      refine Wk.iload (i := 4) (q := 15) (by decide +kernel) rfl rfl ?_
      refine Wk.iconst (n := 4) (q := 16) (by decide +kernel) rfl ?_
      refine Wk.icmp_ge (off := (30)) (t := 46) (q := 19) (by decide +kernel) (by decide) rfl (by first | omega | exact bi_rng _) (by first | omega | exact bi_rng _) (fun hc16 => ?_) (fun hc16 => ?_)
      · omega
      · refine Wk.aload_n (k := 0) (q := 20) (by decide +kernel) rfl rfl rfl ?_
        refine Wk.getR (r := 149) (q := 23) f_Mod_7 (by decide +kernel) O_148 (by decide) rfl rfl rfl ?_
        refine Wk.iload_n (k := 3) (q := 24) (by decide +kernel) rfl rfl rfl ?_
        refine Wk.iload (i := 4) (q := 26) (by decide +kernel) rfl rfl ?_
        refine Wk.iadd (q := 27) (by decide +kernel) rfl ?_
        refine Wk.aload_n (k := 0) (q := 28) (by decide +kernel) rfl rfl rfl ?_
        refine Wk.getR (r := 149) (q := 31) f_Mod_7 (by decide +kernel) O_148 (by decide) rfl rfl rfl ?_
        refine Wk.iload_n (k := 1) (q := 32) (by decide +kernel) rfl rfl rfl ?_
        refine Wk.cSi (q := 35) l_Mod_100 m_Mod_waitAt (by decide +kernel) (fun _ h => h) (Nat.le_of_ble_eq_true rfl) (Nat.le_of_ble_eq_true rfl) rfl (c_Mod_waitAt) rfl ?_
        refine Wk.iload (i := 4) (q := 37) (by decide +kernel) rfl rfl ?_
        refine Wk.iadd (q := 38) (by decide +kernel) rfl ?_
        refine Wk.iaload (q := 39) (by decide +kernel) A_149 (by first | omega | exact bi_rng _) (by first | omega | exact bi_rng _) rfl ?_
        refine Wk.iastore (q := 40) (by decide +kernel) A_149 (by first | omega | exact bi_rng _) (by first | omega | exact bi_rng _) rfl ?_
        refine Wk.iinc (i := 4) (n := 1) (q := 43) (by decide +kernel) rfl (by decide) rfl (fun _ h => h) rfl ?_
        refine Wk.goto (off := (-30)) (q := 13) (by decide +kernel) (by decide) ?_
        rw [mo0_step j0 j1 (by omega)]
        exact ih
  refine Wk.aload_n (k := 0) (q := 1) (by decide +kernel) rfl rfl rfl ?_
  refine Wk.getR (r := 149) (q := 4) f_Mod_7 (by decide +kernel) O_148 (by decide) rfl rfl rfl ?_
  refine Wk.iconst (n := 4) (q := 5) (by decide +kernel) rfl ?_
  refine Wk.iaload (q := 6) (by decide +kernel) A_149 (by first | omega | exact bi_rng _) (by first | omega | exact bi_rng _) rfl ?_
  refine Wk.cSi (q := 9) l_Mod_77 m_Mod_shipAt (by decide +kernel) (fun _ h => h) (Nat.le_of_ble_eq_true rfl) (Nat.le_of_ble_eq_true rfl) rfl (c_Mod_shipAt) rfl ?_
  refine Wk.istore_n (k := 3) (q := 10) (by decide +kernel) rfl (by decide) rfl (fun _ h => h) rfl ?_
  refine Wk.iconst (n := 0) (q := 11) (by decide +kernel) rfl ?_
  refine Wk.istore (i := 4) (q := 13) (by decide +kernel) (by decide) rfl (fun _ h => h) rfl ?_
  rw [mo0_0] at key
  exact key
theorem seed_long {s : Int} (h0 : 0 ≤ s) (h1 : s ≤ 2147483647) : ((nZ s).toInt64 * 1103515245 + 12345 - ((nZ s).toInt64 * 1103515245 + 12345) / 2147483648 * 2147483648).toInt32.toInt = nextSeed s := by
  have m1 : Int32.minValue.toInt = -2147483648 := by decide
  have m2 : Int32.maxValue.toInt = 2147483647 := by decide
  have m3 : Int64.minValue.toInt = -9223372036854775808 := by decide
  have m4 : Int64.maxValue.toInt = 9223372036854775807 := by decide
  have e1 : (nZ s).toInt64 = Int64.ofInt s := Int32.toInt64_ofInt (by rw [m1]; omega) (by rw [m2]; omega)
  have e2 : (nZ s).toInt64 * 1103515245 + 12345 = Int64.ofInt (s * 1103515245 + 12345) := by
    rw [e1, Int64.ofInt_add, Int64.ofInt_mul]; rfl
  have e3 : (2147483648 : Int64) = Int64.ofInt 2147483648 := by decide +kernel
  rw [e2, e3, ← Int64.ofInt_tdiv (by rw [m3]; omega) (by rw [m4]; omega) (by rw [m3]; omega) (by rw [m4]; omega), ← Int64.ofInt_mul, ← Int64.ofInt_sub, Int64.toInt32_ofInt, Int.tdiv_eq_ediv_of_nonneg (by omega)]
  have e4 : s * 1103515245 + 12345 - (s * 1103515245 + 12345) / 2147483648 * 2147483648 = nextSeed s := by unfold nextSeed; omega
  rw [e4]
  have := nextSeed_range s
  exact nZ_toInt (by omega) (by omega)
theorem c_Mod_draw {n : Int} (h0 : 0 < n) (h1 : n ≤ 100) (hs : 0 ≤ I 148 3 ∧ I 148 3 ≤ 2147483647) : Wk xs x_Mod_draw d 0 0 0 [some (vr 148), some (vi n), none, none] [] X2 I L (p2 fun v I' L' => v = some (vi (nextSeed (I 148 3) / 65536 % n)) ∧ I' = iup I 148 3 (nextSeed (I 148 3)) ∧ L' = L) := by
  have hr := nextSeed_range (I 148 3)
  refine Wk.aload_n (k := 0) (q := 1) (by decide +kernel) rfl rfl rfl ?_
  refine Wk.getI (z := 3) (q := 4) f_Mod_156 (by decide +kernel) O_148 (by decide) rfl rfl rfl ?_
  refine Wk.i2l (q := 5) (by decide +kernel) rfl ?_
  refine Wk.ldc2 (q := 8) k_Mod_206 (by decide +kernel) rfl ?_
  refine Wk.lmul (q := 9) (by decide +kernel) rfl ?_
  refine Wk.ldc2 (q := 12) k_Mod_208 (by decide +kernel) rfl ?_
  refine Wk.ladd (q := 13) (by decide +kernel) rfl ?_
  refine Wk.ldc2 (q := 16) k_Mod_210 (by decide +kernel) rfl ?_
  refine Wk.lrem (q := 17) (by decide +kernel) (by decide +kernel) rfl ?_
  refine Wk.lstore_n (k := 2) (q := 18) (by decide +kernel) rfl (by decide) rfl (fun _ h => h) rfl ?_
  refine Wk.aload_n (k := 0) (q := 19) (by decide +kernel) rfl rfl rfl ?_
  refine Wk.lload_n (k := 2) (q := 20) (by decide +kernel) rfl rfl rfl ?_
  refine Wk.l2i (q := 21) (by decide +kernel) rfl ?_
  rw [seed_long hs.1 hs.2]
  refine Wk.putI (z := 3) (q := 24) f_Mod_156 fw_Mod_3 (by decide +kernel) O_148 (by decide) rfl rfl ⟨rfl, rfl⟩ rfl ?_
  refine Wk.aload_n (k := 0) (q := 25) (by decide +kernel) rfl rfl rfl ?_
  refine Wk.getI (z := 3) (q := 28) f_Mod_156 (by decide +kernel) O_148 (by decide) rfl rfl rfl ?_
  rw [iup_at]
  refine Wk.ldc (z := 65536) (q := 30) k_Mod_212 (by decide +kernel) (by decide +kernel) rfl ?_
  refine Wk.idiv (q := 31) (by decide +kernel) (by first | omega | exact bi_rng _) (by first | omega | exact bi_rng _) rfl ?_
  refine Wk.iload_n (k := 1) (q := 32) (by decide +kernel) rfl rfl rfl ?_
  refine Wk.irem (q := 33) (by decide +kernel) (by first | omega | exact bi_rng _) (by first | omega | exact bi_rng _) rfl ?_
  exact Wk.riP (by decide +kernel) rfl (⟨rfl, rfl, rfl⟩)
end MOI
