/-! WORDS OF THE SPECIFICATION, and the smallest methods of the class -/
noncomputable def bi (p : Prop) : Int := @ite Int p (Classical.propDecidable p) 1 0
theorem bi_t {p : Prop} (h : p) : bi p = 1 := by unfold bi; rw [if_pos h]
theorem bi_f {p : Prop} (h : ¬ p) : bi p = 0 := by unfold bi; rw [if_neg h]
theorem bi_01 (p : Prop) : bi p = 0 ∨ bi p = 1 := by
  by_cases h : p
  · exact Or.inr (bi_t h)
  · exact Or.inl (bi_f h)
theorem bi_range (p : Prop) : 0 ≤ bi p ∧ bi p ≤ 1 := by rcases bi_01 p with h | h <;> omega
theorem bi_eq1 {p : Prop} : bi p = 1 ↔ p := by
  by_cases h : p
  · exact ⟨fun _ => h, fun _ => bi_t h⟩
  · exact ⟨fun z => by rw [bi_f h] at z; omega, fun z => absurd z h⟩
theorem bi_eq0 {p : Prop} : bi p = 0 ↔ ¬ p := by
  by_cases h : p
  · exact ⟨fun z => by rw [bi_t h] at z; omega, fun z => absurd h z⟩
  · exact ⟨fun _ => h, fun _ => bi_f h⟩
theorem bi_cong {p q : Prop} (h : p ↔ q) : bi p = bi q := by rw [propext h]
/-- bit k of a set, of a long -/
def bt (F k : Int) : Bool := F.toNat.testBit k.toNat
def bl (w : Int64) (k : Int) : Bool := w.toBitVec.getLsbD k.toNat
theorem and_mask {a : Int} (h0 : 0 ≤ a) (h1 : a ≤ 2147483647) (k : Nat) (m : Int) (hm : (nZ m).toBitVec.toNat = 2 ^ k - 1) (hk : k ≤ 31) : (nZ a &&& nZ m).toInt = a % (2 ^ k : Nat) := by
  rw [pk_and (nZ a) k hm]
  have e : (nZ a).toBitVec.toNat = a.toNat := by
    have h2 : nZ a = nI a.toNat := by
      show Int32.ofInt a = Int32.ofNat a.toNat
      rw [← Int32.ofInt_eq_ofNat, Int.toNat_of_nonneg h0]
    rw [h2, pk_tn (by omega)]
  rw [e]
  have hlt : a.toNat % 2 ^ k < 2 ^ 31 := Nat.lt_of_le_of_lt (Nat.mod_le _ _) (by omega)
  rw [nI_toInt hlt]
  have : (a.toNat : Int) = a := Int.toNat_of_nonneg h0
  rw [Int.natCast_emod, this]
section SW
variable {xs : RO} {d : Nat} {I : IM} {L : LM}

theorem c_Sw_isOut {v l m : Int} (hv : -2147483648 ≤ v ∧ v ≤ 2147483647) (hl : -2147483648 ≤ l ∧ l ≤ 2147483647) (hm : -2147483648 ≤ m ∧ m ≤ 2147483647) : Wk xs x_Sw_isOut d 0 0 0 [some (vi v), some (vi l), some (vi m)] [] X2 I L (pI (bi (v < l ∨ m < v)) I L) := by
  refine Wk.iload_n (k := 0) (q := 1) (by decide +kernel) rfl rfl rfl ?_
  refine Wk.iload_n (k := 1) (q := 2) (by decide +kernel) rfl rfl rfl ?_
  refine Wk.icmp_lt (off := (8)) (t := 10) (q := 5) (by decide +kernel) (by decide) rfl (by omega) (by omega) (fun hc2 => ?_) (fun hc2 => ?_)
  · refine Wk.iconst (n := 1) (q := 11) (by decide +kernel) rfl ?_
    refine Wk.goto (off := (4)) (q := 15) (by decide +kernel) (by decide) ?_
    exact Wk.rZ (by decide +kernel) rfl (by first | omega | decide) (by first | rw [bi_t (by omega)] | rw [bi_f (by omega)])
  · refine Wk.iload_n (k := 0) (q := 6) (by decide +kernel) rfl rfl rfl ?_
    refine Wk.iload_n (k := 2) (q := 7) (by decide +kernel) rfl rfl rfl ?_
    refine Wk.icmp_le (off := (7)) (t := 14) (q := 10) (by decide +kernel) (by decide) rfl (by omega) (by omega) (fun hc7 => ?_) (fun hc7 => ?_)
    · refine Wk.iconst (n := 0) (q := 15) (by decide +kernel) rfl ?_
      exact Wk.rZ (by decide +kernel) rfl (by first | omega | decide) (by first | rw [bi_t (by omega)] | rw [bi_f (by omega)])
    · refine Wk.iconst (n := 1) (q := 11) (by decide +kernel) rfl ?_
      refine Wk.goto (off := (4)) (q := 15) (by decide +kernel) (by decide) ?_
      exact Wk.rZ (by decide +kernel) rfl (by first | omega | decide) (by first | rw [bi_t (by omega)] | rw [bi_f (by omega)])
theorem c_Sw_spotAt {x y : Int} : Wk xs x_Sw_spotAt d 0 0 0 [some (vi x), some (vi y)] [] X2 I L (pI (y * 8 + x) I L) := by
  refine Wk.iload_n (k := 1) (q := 1) (by decide +kernel) rfl rfl rfl ?_
  refine Wk.bipush (n := 8) (q := 3) (by decide +kernel) (by decide +kernel) rfl ?_
  refine Wk.imul (q := 4) (by decide +kernel) rfl ?_
  refine Wk.iload_n (k := 0) (q := 5) (by decide +kernel) rfl rfl rfl ?_
  refine Wk.iadd (q := 6) (by decide +kernel) rfl ?_
  exact Wk.rI (by decide +kernel) rfl (rfl)
theorem c_Sw_columnOf {s : Int} (h0 : 0 ≤ s) (h1 : s ≤ 2147483647) : Wk xs x_Sw_columnOf d 0 0 0 [some (vi s)] [] X2 I L (pI (s % 8) I L) := by
  refine Wk.iload_n (k := 0) (q := 1) (by decide +kernel) rfl rfl rfl ?_
  refine Wk.bipush (n := 7) (q := 3) (by decide +kernel) (by decide +kernel) rfl ?_
  refine Wk.iand (q := 4) (by decide +kernel) rfl ?_
  exact Wk.rI (by decide +kernel) rfl (and_mask h0 h1 3 7 (by decide +kernel) (by omega))
theorem c_Sw_lineOf {s : Int} (h0 : 0 ≤ s) (h1 : s ≤ 2147483647) : Wk xs x_Sw_lineOf d 0 0 0 [some (vi s)] [] X2 I L (pI (s / 8) I L) := by
  refine Wk.iload_n (k := 0) (q := 1) (by decide +kernel) rfl rfl rfl ?_
  refine Wk.bipush (n := 8) (q := 3) (by decide +kernel) (by decide +kernel) rfl ?_
  refine Wk.idiv (q := 4) (by decide +kernel) (by omega) (by omega) rfl ?_
  exact Wk.rI (by decide +kernel) rfl (rfl)
theorem c_Harb_hasCell {x y : Int} (hx : -2147483648 ≤ x ∧ x ≤ 2147483647) (hy : -2147483648 ≤ y ∧ y ≤ 2147483647) (hW : 0 ≤ I 1 0 ∧ I 1 0 ≤ 7) (hH : 0 ≤ I 1 1 ∧ I 1 1 ≤ 7) : Wk xs x_Harb_hasCell d 0 0 0 [some (vr 1), some (vi x), some (vi y)] [] X2 I L (pI (bi (0 ≤ x ∧ x < I 1 0 ∧ 0 ≤ y ∧ y < I 1 1)) I L) := by
  refine Wk.iload_n (k := 1) (q := 1) (by decide +kernel) rfl rfl rfl ?_
  refine Wk.if_lt (off := (27)) (t := 28) (q := 4) (by decide +kernel) (by decide) rfl (by omega) (fun hc1 => ?_) (fun hc1 => ?_)
  · refine Wk.iconst (n := 0) (q := 29) (by decide +kernel) rfl ?_
    exact Wk.rZ (by decide +kernel) rfl (by first | omega | decide) (by first | rw [bi_t (by omega)] | rw [bi_f (by omega)])
  · refine Wk.iload_n (k := 1) (q := 5) (by decide +kernel) rfl rfl rfl ?_
    refine Wk.aload_n (k := 0) (q := 6) (by decide +kernel) rfl rfl rfl ?_
    refine Wk.getI (z := 0) (q := 9) f_Harb_41 (by decide +kernel) O_1 (by decide) rfl rfl rfl ?_
    refine Wk.icmp_ge (off := (19)) (t := 28) (q := 12) (by decide +kernel) (by decide) rfl (by omega) (by omega) (fun hc9 => ?_) (fun hc9 => ?_)
    · refine Wk.iconst (n := 0) (q := 29) (by decide +kernel) rfl ?_
      exact Wk.rZ (by decide +kernel) rfl (by first | omega | decide) (by first | rw [bi_t (by omega)] | rw [bi_f (by omega)])
    · refine Wk.iload_n (k := 2) (q := 13) (by decide +kernel) rfl rfl rfl ?_
      refine Wk.if_lt (off := (15)) (t := 28) (q := 16) (by decide +kernel) (by decide) rfl (by omega) (fun hc13 => ?_) (fun hc13 => ?_)
      · refine Wk.iconst (n := 0) (q := 29) (by decide +kernel) rfl ?_
        exact Wk.rZ (by decide +kernel) rfl (by first | omega | decide) (by first | rw [bi_t (by omega)] | rw [bi_f (by omega)])
      · refine Wk.iload_n (k := 2) (q := 17) (by decide +kernel) rfl rfl rfl ?_
        refine Wk.aload_n (k := 0) (q := 18) (by decide +kernel) rfl rfl rfl ?_
        refine Wk.getI (z := 1) (q := 21) f_Harb_44 (by decide +kernel) O_1 (by decide) rfl rfl rfl ?_
        refine Wk.icmp_ge (off := (7)) (t := 28) (q := 24) (by decide +kernel) (by decide) rfl (by omega) (by omega) (fun hc21 => ?_) (fun hc21 => ?_)
        · refine Wk.iconst (n := 0) (q := 29) (by decide +kernel) rfl ?_
          exact Wk.rZ (by decide +kernel) rfl (by first | omega | decide) (by first | rw [bi_t (by omega)] | rw [bi_f (by omega)])
        · refine Wk.iconst (n := 1) (q := 25) (by decide +kernel) rfl ?_
          refine Wk.goto (off := (4)) (q := 29) (by decide +kernel) (by decide) ?_
          exact Wk.rZ (by decide +kernel) rfl (by first | omega | decide) (by first | rw [bi_t (by omega)] | rw [bi_f (by omega)])
theorem c_Harb_hasAnchored {a : Int} (ha : -2147483648 ≤ a ∧ a ≤ 2147483647) (hA : 0 ≤ I 1 4 ∧ I 1 4 ≤ 5) : Wk xs x_Harb_hasAnchored d 0 0 0 [some (vr 1), some (vi a)] [] X2 I L (pI (bi (0 ≤ a ∧ a < I 1 4)) I L) := by
  refine Wk.iload_n (k := 1) (q := 1) (by decide +kernel) rfl rfl rfl ?_
  refine Wk.if_lt (off := (15)) (t := 16) (q := 4) (by decide +kernel) (by decide) rfl (by omega) (fun hc1 => ?_) (fun hc1 => ?_)
  · refine Wk.iconst (n := 0) (q := 17) (by decide +kernel) rfl ?_
    exact Wk.rZ (by decide +kernel) rfl (by first | omega | decide) (by first | rw [bi_t (by omega)] | rw [bi_f (by omega)])
  · refine Wk.iload_n (k := 1) (q := 5) (by decide +kernel) rfl rfl rfl ?_
    refine Wk.aload_n (k := 0) (q := 6) (by decide +kernel) rfl rfl rfl ?_
    refine Wk.getI (z := 4) (q := 9) f_Harb_47 (by decide +kernel) O_1 (by decide) rfl rfl rfl ?_
    refine Wk.icmp_ge (off := (7)) (t := 16) (q := 12) (by decide +kernel) (by decide) rfl (by omega) (by omega) (fun hc9 => ?_) (fun hc9 => ?_)
    · refine Wk.iconst (n := 0) (q := 17) (by decide +kernel) rfl ?_
      exact Wk.rZ (by decide +kernel) rfl (by first | omega | decide) (by first | rw [bi_t (by omega)] | rw [bi_f (by omega)])
    · refine Wk.iconst (n := 1) (q := 13) (by decide +kernel) rfl ?_
      refine Wk.goto (off := (4)) (q := 17) (by decide +kernel) (by decide) ?_
      exact Wk.rZ (by decide +kernel) rfl (by first | omega | decide) (by first | rw [bi_t (by omega)] | rw [bi_f (by omega)])
theorem c_Harb_hasWaiting {a : Int} (ha : -2147483648 ≤ a ∧ a ≤ 2147483647) (hA : 0 ≤ I 1 5 ∧ I 1 5 ≤ 3) : Wk xs x_Harb_hasWaiting d 0 0 0 [some (vr 1), some (vi a)] [] X2 I L (pI (bi (0 ≤ a ∧ a < I 1 5)) I L) := by
  refine Wk.iload_n (k := 1) (q := 1) (by decide +kernel) rfl rfl rfl ?_
  refine Wk.if_lt (off := (15)) (t := 16) (q := 4) (by decide +kernel) (by decide) rfl (by omega) (fun hc1 => ?_) (fun hc1 => ?_)
  · refine Wk.iconst (n := 0) (q := 17) (by decide +kernel) rfl ?_
    exact Wk.rZ (by decide +kernel) rfl (by first | omega | decide) (by first | rw [bi_t (by omega)] | rw [bi_f (by omega)])
  · refine Wk.iload_n (k := 1) (q := 5) (by decide +kernel) rfl rfl rfl ?_
    refine Wk.aload_n (k := 0) (q := 6) (by decide +kernel) rfl rfl rfl ?_
    refine Wk.getI (z := 5) (q := 9) f_Harb_50 (by decide +kernel) O_1 (by decide) rfl rfl rfl ?_
    refine Wk.icmp_ge (off := (7)) (t := 16) (q := 12) (by decide +kernel) (by decide) rfl (by omega) (by omega) (fun hc9 => ?_) (fun hc9 => ?_)
    · refine Wk.iconst (n := 0) (q := 17) (by decide +kernel) rfl ?_
      exact Wk.rZ (by decide +kernel) rfl (by first | omega | decide) (by first | rw [bi_t (by omega)] | rw [bi_f (by omega)])
    · refine Wk.iconst (n := 1) (q := 13) (by decide +kernel) rfl ?_
      refine Wk.goto (off := (4)) (q := 17) (by decide +kernel) (by decide) ?_
      exact Wk.rZ (by decide +kernel) rfl (by first | omega | decide) (by first | rw [bi_t (by omega)] | rw [bi_f (by omega)])
theorem c_Harb_cellAt {x y : Int} : Wk xs x_Harb_cellAt d 0 0 0 [some (vr 1), some (vi x), some (vi y)] [] X2 I L (pI (y * I 1 0 + x) I L) := by
  refine Wk.iload_n (k := 2) (q := 1) (by decide +kernel) rfl rfl rfl ?_
  refine Wk.aload_n (k := 0) (q := 2) (by decide +kernel) rfl rfl rfl ?_
  refine Wk.getI (z := 0) (q := 5) f_Harb_41 (by decide +kernel) O_1 (by decide) rfl rfl rfl ?_
  refine Wk.imul (q := 6) (by decide +kernel) rfl ?_
  refine Wk.iload_n (k := 1) (q := 7) (by decide +kernel) rfl rfl rfl ?_
  refine Wk.iadd (q := 8) (by decide +kernel) rfl ?_
  exact Wk.rI (by decide +kernel) rfl (rfl)
end SW
