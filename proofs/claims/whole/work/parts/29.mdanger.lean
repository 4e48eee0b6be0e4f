/-! THE REFERENCE: ships at anchor and ships that wait -/
def MI1 (I : IM) : Prop := ∀ a, 0 ≤ a → a < I 149 4 → MP I (55 + 4 * a) ∧ mC I (I 149 (55 + 4 * a + 3))
def MI2 (I : IM) : Prop := ∀ k, 0 ≤ k → k < I 149 5 → MP I (75 + 4 * k)
def MW (I : IM) : Prop := MI0 I ∧ MI1 I ∧ MI2 I
abbrev mCa (I : IM) (F a b : Int) : Prop := mCL I F (55 + 4 * a) (I 149 (55 + 4 * a + 3)) (55 + 4 * b) (I 149 (55 + 4 * b + 3))
abbrev mDP (I : IM) (F a : Int) : Prop := ¬ mML I F (55 + 4 * a) (I 149 (55 + 4 * a + 3)) ∨ ∃ b, (0 ≤ b ∧ b < I 149 4) ∧ ¬ a = b ∧ mCa I F a b
noncomputable def mDG (I : IM) (F : Int) : Int := so (mDP I F) (I 149 4).toNat
/-- free for a ship at p, some ships being moved -/
def mFr (I : IM) (p m c : Int) : Prop := mML I (I 149 3) p c ∧ ∀ a, 0 ≤ a → a < I 149 4 → bt m a = true ∨ ¬ mCL I (I 149 3) p c (55 + 4 * a) (I 149 (55 + 4 * a + 3))
theorem mcl_zero {I : IM} {F a : Int} : so (fun b => ¬ a = b ∧ mCa I F a b) (I 149 4).toNat = 0 ↔ ¬ ∃ b, (0 ≤ b ∧ b < I 149 4) ∧ ¬ a = b ∧ mCa I F a b := by
  rw [so_zero]
  constructor
  · intro h ⟨b, h1, h2⟩
    exact h b h1.1 (by omega) h2
  · intro h b h1 h2 h3
    exact h ⟨b, by omega, h3⟩
theorem wat_cong {W H t x y : Int} {e f : Int → Int} (h : ∀ k, 0 ≤ k → k < W * H → e k = f k) : wat W H t e x y = wat W H t f x y := by
  by_cases hi : inE W H x y
  · have hb := cellB (W := W) (H := H) (x := x) (y := y) ⟨hi.1, hi.2.1⟩ ⟨hi.2.2.1, hi.2.2.2⟩
    rw [wat_in hi, wat_in hi, h _ hb.1 hb.2.1]
  · rw [wat_out hi, wat_out hi]
theorem ML_cong {W H t : Int} {e f : Int → Int} {F dr ch sd x y : Int} (h : ∀ k, 0 ≤ k → k < W * H → e k = f k) : ML W H t e F dr ch sd x y ↔ ML W H t f F dr ch sd x y := by
  unfold ML
  constructor
  · intro g w cx cy a1 a2 a3 a4
    rw [← wat_cong h]; exact g w cx cy a1 a2 a3 a4
  · intro g w cx cy a1 a2 a3 a4
    rw [wat_cong h]; exact g w cx cy a1 a2 a3 a4
theorem iup2 (I : IM) (i : Nat) (z v u : Int) : iup (iup I i z v) i z u = iup I i z u := by
  funext a b; unfold iup; split <;> rfl
theorem iup_same (I : IM) (i : Nat) (z : Int) : iup I i z (I i z) = I := by
  funext a b; unfold iup
  split
  · rename_i h; rw [h.1, h.2]
  · rfl
theorem iup_at (I : IM) (i : Nat) (z v : Int) : iup I i z v i z = v := by simp [iup]
theorem iup_ne {I : IM} {i a : Nat} {z b v : Int} (h : ¬ (a = i ∧ b = z)) : iup I i z v a b = I a b := by unfold iup; rw [if_neg h]
/-- the same row but for the winds -/
def mAg (I' I : IM) : Prop := ∀ k, ¬ k = 3 → I' 149 k = I 149 k
theorem mML_ag {I' I : IM} (h : mAg I' I) {F p c : Int} (hp : 4 ≤ p) : mML I' F p c ↔ mML I F p c := by
  unfold mML
  rw [h 0 (by decide), h 1 (by decide), h 2 (by decide), h p (by omega), h (p + 1) (by omega), h (p + 2) (by omega)]
  exact ML_cong (fun k h0 _ => h _ (by omega))
theorem mCL_ag {I' I : IM} (h : mAg I' I) {F p c q e : Int} (hp : 4 ≤ p) (hq : 4 ≤ q) : mCL I' F p c q e ↔ mCL I F p c q e := by
  unfold mCL
  rw [h 0 (by decide), h (p + 1) (by omega), h (p + 2) (by omega), h (q + 1) (by omega), h (q + 2) (by omega)]
theorem mDG_ag {I' I : IM} (h : mAg I' I) {F : Int} : mDG I' F = mDG I F := by
  unfold mDG
  rw [h 4 (by decide)]
  refine so_cong fun a a0 _ => ?_
  unfold mDP mCa
  rw [mML_ag h (by omega), h (55 + 4 * a + 3) (by omega), h 4 (by decide)]
  have e : (∃ b, (0 ≤ b ∧ b < I 149 4) ∧ ¬ a = b ∧ mCL I' F (55 + 4 * a) (I 149 (55 + 4 * a + 3)) (55 + 4 * b) (I' 149 (55 + 4 * b + 3))) ↔ ∃ b, (0 ≤ b ∧ b < I 149 4) ∧ ¬ a = b ∧ mCL I F (55 + 4 * a) (I 149 (55 + 4 * a + 3)) (55 + 4 * b) (I 149 (55 + 4 * b + 3)) := by
    constructor
    · intro ⟨b, b0, b1, b2⟩
      rw [mCL_ag h (by omega) (by omega), h (55 + 4 * b + 3) (by omega)] at b2
      exact ⟨b, b0, b1, b2⟩
    · intro ⟨b, b0, b1, b2⟩
      refine ⟨b, b0, b1, ?_⟩
      rw [mCL_ag h (by omega) (by omega), h (55 + 4 * b + 3) (by omega)]
      exact b2
  rw [e]
theorem MW_ag {I' I : IM} (h : mAg I' I) (hw : 0 ≤ I' 149 3 ∧ I' 149 3 ≤ 255) (hI : MW I) : MW I' := by
  obtain ⟨⟨h1, h2, h3, -, h5, h6, h7⟩, g1, g2⟩ := hI
  refine ⟨⟨?_, ?_, ?_, hw, ?_, ?_, fun k k0 k1 => ?_⟩, fun a a0 a1 => ?_, fun k k0 k1 => ?_⟩
  · rw [h 0 (by decide)]; exact h1
  · rw [h 1 (by decide)]; exact h2
  · rw [h 2 (by decide)]; exact h3
  · rw [h 4 (by decide)]; exact h5
  · rw [h 5 (by decide)]; exact h6
  · rw [h (6 + k) (by omega)]; exact h7 k k0 k1
  · rw [h 4 (by decide)] at a1
    have := g1 a a0 a1
    unfold MP mC at *
    rw [h (55 + 4 * a) (by omega), h (55 + 4 * a + 1) (by omega), h (55 + 4 * a + 2) (by omega), h (55 + 4 * a + 3) (by omega), h 0 (by decide), h 1 (by decide)]
    exact this
  · rw [h 5 (by decide)] at k1
    have := g2 k k0 k1
    unfold MP at *
    rw [h (75 + 4 * k) (by omega), h (75 + 4 * k + 1) (by omega), h (75 + 4 * k + 2) (by omega)]
    exact this
noncomputable def sm (f : Int → Int) : Nat → Int
  | 0 => 0
  | n + 1 => sm f n + f n
theorem sm_step (f : Int → Int) {k : Int} (h : 0 ≤ k) : sm f (k + 1).toNat = sm f k.toNat + f k := by
  have e : (k + 1).toNat = k.toNat + 1 := by omega
  have e2 : ((k.toNat : Nat) : Int) = k := Int.toNat_of_nonneg h
  rw [e]; show sm f k.toNat + f (k.toNat : Int) = _
  rw [e2]
theorem sm_cong {f g : Int → Int} : ∀ {n : Nat}, (∀ k : Int, 0 ≤ k → k < n → f k = g k) → sm f n = sm g n
  | 0, _ => rfl
  | n + 1, h => by
    show sm f n + f n = sm g n + g n
    rw [sm_cong (n := n) (fun k h0 h1 => h k h0 (by omega)), h n (by omega) (by omega)]
theorem sm_range {f : Int → Int} {B : Int} (h : ∀ k, 0 ≤ f k ∧ f k ≤ B) : ∀ n : Nat, 0 ≤ sm f n ∧ sm f n ≤ B * n
  | 0 => by show 0 ≤ (0 : Int) ∧ (0 : Int) ≤ B * (0 : Nat); omega
  | n + 1 => by
    have h1 := sm_range h n
    have h2 := h n
    have e : B * ((n + 1 : Nat) : Int) = B * (n : Int) + B := by rw [Int.natCast_add, Int.mul_add]; omega
    show 0 ≤ sm f n + f n ∧ sm f n + f n ≤ _
    rw [e]; omega
section MOC
variable {xs : RO} {d : Nat} {I : IM} {L : LM}

theorem c_Mod_clashes {a : Int} (h0 : 0 ≤ a) (h1 : a < I 149 4) (hM : MW I) : Wk xs x_Mod_clashes (d + 3) 0 0 0 [some (vr 148), some (vi a), none, none] [] X2 I L (pI (so (fun b => ¬ a = b ∧ mCa I (I 149 3) a b) (I 149 4).toNat) I L) := by
  obtain ⟨hI, hS, hQ⟩ := id hM
  obtain ⟨hW, hH, hT, hF, hA, hK, hD⟩ := id hI
  have h49 := WH49 (W := I 149 0) (H := I 149 1) (by omega) (by omega)
  have key : Wk xs x_Mod_clashes (d + 3) 0 0 4 [some (vr 148), some (vi a), some (vi (so (fun b => ¬ a = b ∧ mCa I (I 149 3) a b) (0 : Int).toNat)), some (vi 0)] [] X2 I L (pI (so (fun b => ¬ a = b ∧ mCa I (I 149 3) a b) (I 149 4).toNat) I L) := by
    refine loopI (fun k => Wk xs x_Mod_clashes (d + 3) 0 0 4 [some (vr 148), some (vi a), some (vi (so (fun b => ¬ a = b ∧ mCa I (I 149 3) a b) k.toNat)), some (vi k)] [] X2 I L (pI (so (fun b => ¬ a = b ∧ mCa I (I 149 3) a b) (I 149 4).toNat) I L)) (I 149 4) 0 (by omega) ?_ ?_
    · refine Wk.iload_n (k := 3) (q := 5) (by decide +kernel) rfl rfl rfl ?_
      refine Wk.aload_n (k := 0) (q := 6) (by decide +kernel) rfl rfl rfl ?_
      refine Wk.getR (r := 149) (q := 9) f_Mod_7 (by decide +kernel) O_148 (by decide) rfl rfl rfl ?_
      refine Wk.iconst (n := 4) (q := 10) (by decide +kernel) rfl ?_
      refine Wk.iaload (q := 11) (by decide +kernel) A_149 (by first | omega | exact bi_rng _) (by first | omega | exact bi_rng _) rfl ?_
      refine Wk.icmp_ge (off := (61)) (t := 72) (q := 14) (by decide +kernel) (by decide) rfl (by first | omega | exact bi_rng _) (by first | omega | exact bi_rng _) (fun hc11 => ?_) (fun hc11 => ?_)
      · refine Wk.iload_n (k := 2) (q := 73) (by decide +kernel) rfl rfl rfl ?_
        exact Wk.rI (by decide +kernel) rfl (rfl)
      · omega
    · intro k k0 k1 ih
      have hs := so_range (fun b => ¬ a = b ∧ mCa I (I 149 3) a b) k.toNat
      have hs2 := so_r5 (fun b => ¬ a = b ∧ mCa I (I 149 3) a b) (n := k.toNat) (by omega)
      rw [so_step _ k0] at ih
      refine Wk.iload_n (k := 3) (q := 5) (by decide +kernel) rfl rfl rfl ?_
      refine Wk.aload_n (k := 0) (q := 6) (by decide +kernel) rfl rfl rfl ?_
      refine Wk.getR (r := 149) (q := 9) f_Mod_7 (by decide +kernel) O_148 (by decide) rfl rfl rfl ?_
      refine Wk.iconst (n := 4) (q := 10) (by decide +kernel) rfl ?_
      refine Wk.iaload (q := 11) (by decide +kernel) A_149 (by first | omega | exact bi_rng _) (by first | omega | exact bi_rng _) rfl ?_
      refine Wk.icmp_ge (off := (61)) (t := 72) (q := 14) (by decide +kernel) (by decide) rfl (by first | omega | exact bi_rng _) (by first | omega | exact bi_rng _) (fun hc11 => ?_) (fun hc11 => ?_)
      · omega
      · refine Wk.iload_n (k := 2) (q := 15) (by decide +kernel) rfl rfl rfl ?_
        refine Wk.iload_n (k := 1) (q := 16) (by decide +kernel) rfl rfl rfl ?_
        refine Wk.iload_n (k := 3) (q := 17) (by decide +kernel) rfl rfl rfl ?_
        refine Wk.icmp_eq (off := (46)) (t := 63) (q := 20) (by decide +kernel) (by decide) rfl (by first | omega | exact bi_rng _) (by first | omega | exact bi_rng _) (fun hc17 => ?_) (fun hc17 => ?_)
        · refine Wk.iconst (n := 0) (q := 64) (by decide +kernel) rfl ?_
          refine Wk.ior (q := 65) (by decide +kernel) rfl ?_
          refine Wk.istore_n (k := 2) (q := 66) (by decide +kernel) rfl (by decide) rfl (fun _ h => h) rfl ?_
          refine Wk.iinc (i := 3) (n := 1) (q := 69) (by decide +kernel) rfl (by decide) rfl (fun _ h => h) rfl ?_
          refine Wk.goto (off := (-65)) (q := 4) (by decide +kernel) (by decide) ?_
          first
            | (rw [or_above hs.1 hs.2 k0 (by omega)]
               rw [bi_t (⟨hc17, hc54⟩), Int.one_mul] at ih
               exact ih)
            | (rw [or_nil hs2.1 (by omega)]
               rw [bi_f (fun z => by first | exact z.1 hc17 | exact hc54 z.2), Int.zero_mul, Int.add_zero] at ih
               exact ih)
        · refine Wk.aload_n (k := 0) (q := 21) (by decide +kernel) rfl rfl rfl ?_
          refine Wk.iload_n (k := 1) (q := 22) (by decide +kernel) rfl rfl rfl ?_
          refine Wk.cSi (q := 25) l_Mod_77 m_Mod_shipAt (by decide +kernel) (fun _ h => h) (Nat.le_of_ble_eq_true rfl) (Nat.le_of_ble_eq_true rfl) rfl (c_Mod_shipAt) rfl ?_
          refine Wk.aload_n (k := 0) (q := 26) (by decide +kernel) rfl rfl rfl ?_
          refine Wk.getR (r := 149) (q := 29) f_Mod_7 (by decide +kernel) O_148 (by decide) rfl rfl rfl ?_
          refine Wk.iload_n (k := 1) (q := 30) (by decide +kernel) rfl rfl rfl ?_
          refine Wk.cSi (q := 33) l_Mod_77 m_Mod_shipAt (by decide +kernel) (fun _ h => h) (Nat.le_of_ble_eq_true rfl) (Nat.le_of_ble_eq_true rfl) rfl (c_Mod_shipAt) rfl ?_
          refine Wk.iconst (n := 3) (q := 34) (by decide +kernel) rfl ?_
          refine Wk.iadd (q := 35) (by decide +kernel) rfl ?_
          refine Wk.iaload (q := 36) (by decide +kernel) A_149 (by first | omega | exact bi_rng _) (by first | omega | exact bi_rng _) rfl ?_
          refine Wk.iload_n (k := 3) (q := 37) (by decide +kernel) rfl rfl rfl ?_
          refine Wk.cSi (q := 40) l_Mod_77 m_Mod_shipAt (by decide +kernel) (fun _ h => h) (Nat.le_of_ble_eq_true rfl) (Nat.le_of_ble_eq_true rfl) rfl (c_Mod_shipAt) rfl ?_
          refine Wk.aload_n (k := 0) (q := 41) (by decide +kernel) rfl rfl rfl ?_
          refine Wk.getR (r := 149) (q := 44) f_Mod_7 (by decide +kernel) O_148 (by decide) rfl rfl rfl ?_
          refine Wk.iload_n (k := 3) (q := 45) (by decide +kernel) rfl rfl rfl ?_
          refine Wk.cSi (q := 48) l_Mod_77 m_Mod_shipAt (by decide +kernel) (fun _ h => h) (Nat.le_of_ble_eq_true rfl) (Nat.le_of_ble_eq_true rfl) rfl (c_Mod_shipAt) rfl ?_
          refine Wk.iconst (n := 3) (q := 49) (by decide +kernel) rfl ?_
          refine Wk.iadd (q := 50) (by decide +kernel) rfl ?_
          refine Wk.iaload (q := 51) (by decide +kernel) A_149 (by first | omega | exact bi_rng _) (by first | omega | exact bi_rng _) rfl ?_
          refine Wk.cVi (q := 54) l_Mod_80 m_Mod_clash (by decide +kernel) (fun _ h => h) O_148 rfl (Nat.le_of_ble_eq_true rfl) (Nat.le_of_ble_eq_true rfl) rfl (c_Mod_clash hI (hS a h0 h1).1 (hS a h0 h1).2 (hS k k0 k1).1 (hS k k0 k1).2) rfl ?_
          refine Wk.ifB_eq (off := (9)) (t := 63) (q := 57) (by decide +kernel) (by decide) rfl (fun hc54 => ?_) (fun hc54 => ?_)
          · refine Wk.iconst (n := 0) (q := 64) (by decide +kernel) rfl ?_
            refine Wk.ior (q := 65) (by decide +kernel) rfl ?_
            refine Wk.istore_n (k := 2) (q := 66) (by decide +kernel) rfl (by decide) rfl (fun _ h => h) rfl ?_
            refine Wk.iinc (i := 3) (n := 1) (q := 69) (by decide +kernel) rfl (by decide) rfl (fun _ h => h) rfl ?_
            refine Wk.goto (off := (-65)) (q := 4) (by decide +kernel) (by decide) ?_
            first
              | (rw [or_above hs.1 hs.2 k0 (by omega)]
                 rw [bi_t (⟨hc17, hc54⟩), Int.one_mul] at ih
                 exact ih)
              | (rw [or_nil hs2.1 (by omega)]
                 rw [bi_f (fun z => by first | exact z.1 hc17 | exact hc54 z.2), Int.zero_mul, Int.add_zero] at ih
                 exact ih)
          · refine Wk.iconst (n := 1) (q := 58) (by decide +kernel) rfl ?_
            refine Wk.iload_n (k := 3) (q := 59) (by decide +kernel) rfl rfl rfl ?_
            refine Wk.ishl (q := 60) (by decide +kernel) rfl ?_
            refine Wk.goto (off := (4)) (q := 64) (by decide +kernel) (by decide) ?_
            refine Wk.ior (q := 65) (by decide +kernel) rfl ?_
            refine Wk.istore_n (k := 2) (q := 66) (by decide +kernel) rfl (by decide) rfl (fun _ h => h) rfl ?_
            refine Wk.iinc (i := 3) (n := 1) (q := 69) (by decide +kernel) rfl (by decide) rfl (fun _ h => h) rfl ?_
            refine Wk.goto (off := (-65)) (q := 4) (by decide +kernel) (by decide) ?_
            first
              | (rw [or_above hs.1 hs.2 k0 (by omega)]
                 rw [bi_t (⟨hc17, hc54⟩), Int.one_mul] at ih
                 exact ih)
              | (rw [or_nil hs2.1 (by omega)]
                 rw [bi_f (fun z => by first | exact z.1 hc17 | exact hc54 z.2), Int.zero_mul, Int.add_zero] at ih
                 exact ih)
  refine Wk.iconst (n := 0) (q := 1) (by decide +kernel) rfl ?_
  refine Wk.istore_n (k := 2) (q := 2) (by decide +kernel) rfl (by decide) rfl (fun _ h => h) rfl ?_
  refine Wk.iconst (n := 0) (q := 3) (by decide +kernel) rfl ?_
  refine Wk.istore_n (k := 3) (q := 4) (by decide +kernel) rfl (by decide) rfl (fun _ h => h) rfl ?_
  exact key
theorem c_Mod_liesWell {a : Int} (h0 : 0 ≤ a) (h1 : a < I 149 4) (hM : MW I) : Wk xs x_Mod_liesWell (d + 5) 0 0 0 [some (vr 148), some (vi a)] [] X2 I L (pI (bi (mML I (I 149 3) (55 + 4 * a) (I 149 (55 + 4 * a + 3)))) I L) := by
  obtain ⟨hI, hS, hQ⟩ := id hM
  obtain ⟨hW, hH, hT, hF, hA, hK, hD⟩ := id hI
  have h49 := WH49 (W := I 149 0) (H := I 149 1) (by omega) (by omega)
  refine Wk.aload_n (k := 0) (q := 1) (by decide +kernel) rfl rfl rfl ?_
  refine Wk.iload_n (k := 1) (q := 2) (by decide +kernel) rfl rfl rfl ?_
  refine Wk.cSi (q := 5) l_Mod_77 m_Mod_shipAt (by decide +kernel) (fun _ h => h) (Nat.le_of_ble_eq_true rfl) (Nat.le_of_ble_eq_true rfl) rfl (c_Mod_shipAt) rfl ?_
  refine Wk.aload_n (k := 0) (q := 6) (by decide +kernel) rfl rfl rfl ?_
  refine Wk.getR (r := 149) (q := 9) f_Mod_7 (by decide +kernel) O_148 (by decide) rfl rfl rfl ?_
  refine Wk.iload_n (k := 1) (q := 10) (by decide +kernel) rfl rfl rfl ?_
  refine Wk.cSi (q := 13) l_Mod_77 m_Mod_shipAt (by decide +kernel) (fun _ h => h) (Nat.le_of_ble_eq_true rfl) (Nat.le_of_ble_eq_true rfl) rfl (c_Mod_shipAt) rfl ?_
  refine Wk.iconst (n := 3) (q := 14) (by decide +kernel) rfl ?_
  refine Wk.iadd (q := 15) (by decide +kernel) rfl ?_
  refine Wk.iaload (q := 16) (by decide +kernel) A_149 (by first | omega | exact bi_rng _) (by first | omega | exact bi_rng _) rfl ?_
  refine Wk.cVi (q := 19) l_Mod_83 m_Mod_mayLie (by decide +kernel) (fun _ h => h) O_148 rfl (Nat.le_of_ble_eq_true rfl) (Nat.le_of_ble_eq_true rfl) rfl (c_Mod_mayLie hI (hS a h0 h1).1 (hS a h0 h1).2) rfl ?_
  exact Wk.rZ (by decide +kernel) rfl (by first | omega | decide | exact bi_01 _) (rfl)
theorem c_Mod_danger (hM : MW I) : Wk xs x_Mod_danger (d + 6) 0 0 0 [some (vr 148), none, none] [] X2 I L (pI (so (mDP I (I 149 3)) (I 149 4).toNat) I L) := by
  obtain ⟨hI, hS, hQ⟩ := id hM
  obtain ⟨hW, hH, hT, hF, hA, hK, hD⟩ := id hI
  have h49 := WH49 (W := I 149 0) (H := I 149 1) (by omega) (by omega)
  have key : Wk xs x_Mod_danger (d + 6) 0 0 4 [some (vr 148), some (vi (so (mDP I (I 149 3)) (0 : Int).toNat)), some (vi 0)] [] X2 I L (pI (so (mDP I (I 149 3)) (I 149 4).toNat) I L) := by
    refine loopI (fun k => Wk xs x_Mod_danger (d + 6) 0 0 4 [some (vr 148), some (vi (so (mDP I (I 149 3)) k.toNat)), some (vi k)] [] X2 I L (pI (so (mDP I (I 149 3)) (I 149 4).toNat) I L)) (I 149 4) 0 (by omega) ?_ ?_
    · refine Wk.iload_n (k := 2) (q := 5) (by decide +kernel) rfl rfl rfl ?_
      refine Wk.aload_n (k := 0) (q := 6) (by decide +kernel) rfl rfl rfl ?_
      refine Wk.getR (r := 149) (q := 9) f_Mod_7 (by decide +kernel) O_148 (by decide) rfl rfl rfl ?_
      refine Wk.iconst (n := 4) (q := 10) (by decide +kernel) rfl ?_
      refine Wk.iaload (q := 11) (by decide +kernel) A_149 (by first | omega | exact bi_rng _) (by first | omega | exact bi_rng _) rfl ?_
      refine Wk.icmp_ge (off := (35)) (t := 46) (q := 14) (by decide +kernel) (by decide) rfl (by first | omega | exact bi_rng _) (by first | omega | exact bi_rng _) (fun hc11 => ?_) (fun hc11 => ?_)
      · refine Wk.iload_n (k := 1) (q := 47) (by decide +kernel) rfl rfl rfl ?_
        exact Wk.rI (by decide +kernel) rfl (rfl)
      · omega
    · intro k k0 k1 ih
      have hs := so_range (mDP I (I 149 3)) k.toNat
      have hs2 := so_r5 (mDP I (I 149 3)) (n := k.toNat) (by omega)
      rw [so_step _ k0] at ih
      refine Wk.iload_n (k := 2) (q := 5) (by decide +kernel) rfl rfl rfl ?_
      refine Wk.aload_n (k := 0) (q := 6) (by decide +kernel) rfl rfl rfl ?_
      refine Wk.getR (r := 149) (q := 9) f_Mod_7 (by decide +kernel) O_148 (by decide) rfl rfl rfl ?_
      refine Wk.iconst (n := 4) (q := 10) (by decide +kernel) rfl ?_
      refine Wk.iaload (q := 11) (by decide +kernel) A_149 (by first | omega | exact bi_rng _) (by first | omega | exact bi_rng _) rfl ?_
      refine Wk.icmp_ge (off := (35)) (t := 46) (q := 14) (by decide +kernel) (by decide) rfl (by first | omega | exact bi_rng _) (by first | omega | exact bi_rng _) (fun hc11 => ?_) (fun hc11 => ?_)
      · omega
      · refine Wk.iload_n (k := 1) (q := 15) (by decide +kernel) rfl rfl rfl ?_
        refine Wk.aload_n (k := 0) (q := 16) (by decide +kernel) rfl rfl rfl ?_
        refine Wk.iload_n (k := 2) (q := 17) (by decide +kernel) rfl rfl rfl ?_
        refine Wk.cVi (q := 20) l_Mod_86 m_Mod_liesWell (by decide +kernel) (fun _ h => h) O_148 rfl (Nat.le_of_ble_eq_true rfl) (Nat.le_of_ble_eq_true rfl) rfl (c_Mod_liesWell k0 k1 hM) rfl ?_
        refine Wk.ifB_eq (off := (11)) (t := 31) (q := 23) (by decide +kernel) (by decide) rfl (fun hc20 => ?_) (fun hc20 => ?_)
        · refine Wk.iconst (n := 1) (q := 32) (by decide +kernel) rfl ?_
          refine Wk.iload_n (k := 2) (q := 33) (by decide +kernel) rfl rfl rfl ?_
          refine Wk.ishl (q := 34) (by decide +kernel) rfl ?_
          refine Wk.goto (off := (4)) (q := 38) (by decide +kernel) (by decide) ?_
          refine Wk.ior (q := 39) (by decide +kernel) rfl ?_
          refine Wk.istore_n (k := 1) (q := 40) (by decide +kernel) rfl (by decide) rfl (fun _ h => h) rfl ?_
          refine Wk.iinc (i := 2) (n := 1) (q := 43) (by decide +kernel) rfl (by decide) rfl (fun _ h => h) rfl ?_
          refine Wk.goto (off := (-39)) (q := 4) (by decide +kernel) (by decide) ?_
          first
            | (rw [or_above hs.1 hs.2 k0 (by omega)]
               rw [bi_t (by first | exact Or.inl hc20 | exact Or.inr (Classical.not_not.mp (fun z => hc28 (mcl_zero.mpr z)))), Int.one_mul] at ih
               exact ih)
            | (rw [or_nil hs2.1 (by omega)]
               rw [bi_f (fun z => by rcases z with z | z; exact z hc20; exact (mcl_zero.mp hc28) z), Int.zero_mul, Int.add_zero] at ih
               exact ih)
        · refine Wk.aload_n (k := 0) (q := 24) (by decide +kernel) rfl rfl rfl ?_
          refine Wk.iload_n (k := 2) (q := 25) (by decide +kernel) rfl rfl rfl ?_
          refine Wk.cVi (q := 28) l_Mod_90 m_Mod_clashes (by decide +kernel) (fun _ h => h) O_148 rfl (Nat.le_of_ble_eq_true rfl) (Nat.le_of_ble_eq_true rfl) rfl (c_Mod_clashes k0 k1 hM) rfl ?_
          refine Wk.if_eq (off := (9)) (t := 37) (q := 31) (by decide +kernel) (by decide) rfl (by have := so_r5 (fun b => ¬ k = b ∧ mCa I (I 149 3) k b) (n := (I 149 4).toNat) (by omega); omega) (fun hc28 => ?_) (fun hc28 => ?_)
          · refine Wk.iconst (n := 0) (q := 38) (by decide +kernel) rfl ?_
            refine Wk.ior (q := 39) (by decide +kernel) rfl ?_
            refine Wk.istore_n (k := 1) (q := 40) (by decide +kernel) rfl (by decide) rfl (fun _ h => h) rfl ?_
            refine Wk.iinc (i := 2) (n := 1) (q := 43) (by decide +kernel) rfl (by decide) rfl (fun _ h => h) rfl ?_
            refine Wk.goto (off := (-39)) (q := 4) (by decide +kernel) (by decide) ?_
            first
              | (rw [or_above hs.1 hs.2 k0 (by omega)]
                 rw [bi_t (by first | exact Or.inl hc20 | exact Or.inr (Classical.not_not.mp (fun z => hc28 (mcl_zero.mpr z)))), Int.one_mul] at ih
                 exact ih)
              | (rw [or_nil hs2.1 (by omega)]
                 rw [bi_f (fun z => by rcases z with z | z; exact z hc20; exact (mcl_zero.mp hc28) z), Int.zero_mul, Int.add_zero] at ih
                 exact ih)
          · refine Wk.iconst (n := 1) (q := 32) (by decide +kernel) rfl ?_
            refine Wk.iload_n (k := 2) (q := 33) (by decide +kernel) rfl rfl rfl ?_
            refine Wk.ishl (q := 34) (by decide +kernel) rfl ?_
            refine Wk.goto (off := (4)) (q := 38) (by decide +kernel) (by decide) ?_
            refine Wk.ior (q := 39) (by decide +kernel) rfl ?_
            refine Wk.istore_n (k := 1) (q := 40) (by decide +kernel) rfl (by decide) rfl (fun _ h => h) rfl ?_
            refine Wk.iinc (i := 2) (n := 1) (q := 43) (by decide +kernel) rfl (by decide) rfl (fun _ h => h) rfl ?_
            refine Wk.goto (off := (-39)) (q := 4) (by decide +kernel) (by decide) ?_
            first
              | (rw [or_above hs.1 hs.2 k0 (by omega)]
                 rw [bi_t (by first | exact Or.inl hc20 | exact Or.inr (Classical.not_not.mp (fun z => hc28 (mcl_zero.mpr z)))), Int.one_mul] at ih
                 exact ih)
              | (rw [or_nil hs2.1 (by omega)]
                 rw [bi_f (fun z => by rcases z with z | z; exact z hc20; exact (mcl_zero.mp hc28) z), Int.zero_mul, Int.add_zero] at ih
                 exact ih)
  refine Wk.iconst (n := 0) (q := 1) (by decide +kernel) rfl ?_
  refine Wk.istore_n (k := 1) (q := 2) (by decide +kernel) rfl (by decide) rfl (fun _ h => h) rfl ?_
  refine Wk.iconst (n := 0) (q := 3) (by decide +kernel) rfl ?_
  refine Wk.istore_n (k := 2) (q := 4) (by decide +kernel) rfl (by decide) rfl (fun _ h => h) rfl ?_
  exact key
theorem c_Mod_threats (hM : MW I) : Wk xs x_Mod_threats (d + 7) 0 0 0 [some (vr 148), none, none, none, none] [] X2 I L (pI (so (fun w => ¬ mDG I (orb (I 149 3) w) = mDG I (I 149 3)) 8) I L) := by
  obtain ⟨hI, hS, hQ⟩ := id hM
  obtain ⟨hW, hH, hT, hF, hA, hK, hD⟩ := id hI
  have h49 := WH49 (W := I 149 0) (H := I 149 1) (by omega) (by omega)
  have hd0 : 0 ≤ mDG I (I 149 3) ∧ mDG I (I 149 3) < 32 := so_r5 _ (by omega)
  have key : Wk xs x_Mod_threats (d + 7) 0 0 17 [some (vr 148), some (vi (mDG I (I 149 3))), some (vi (I 149 3)), some (vi (so (fun w => ¬ mDG I (orb (I 149 3) w) = mDG I (I 149 3)) (0 : Int).toNat)), some (vi 0)] [] X2 (iup I 149 3 (I 149 3)) L (pI (so (fun w => ¬ mDG I (orb (I 149 3) w) = mDG I (I 149 3)) 8) I L) := by
    refine loopS (σ := Int) (fun k f => Wk xs x_Mod_threats (d + 7) 0 0 17 [some (vr 148), some (vi (mDG I (I 149 3))), some (vi (I 149 3)), some (vi (so (fun w => ¬ mDG I (orb (I 149 3) w) = mDG I (I 149 3)) k.toNat)), some (vi k)] [] X2 (iup I 149 3 f) L (pI (so (fun w => ¬ mDG I (orb (I 149 3) w) = mDG I (I 149 3)) 8) I L)) (fun _ _ => True) 8 0 (I 149 3) (by omega) trivial ?_ ?_
    · intro f _
      refine Wk.iload (i := 4) (q := 19) (by decide +kernel) rfl rfl ?_
      refine Wk.bipush (n := 8) (q := 21) (by decide +kernel) (by decide +kernel) rfl ?_
      refine Wk.icmp_ge (off := (40)) (t := 61) (q := 24) (by decide +kernel) (by decide) rfl (by first | omega | exact bi_rng _) (by first | omega | exact bi_rng _) (fun hc21 => ?_) (fun hc21 => ?_)
      · refine Wk.aload_n (k := 0) (q := 62) (by decide +kernel) rfl rfl rfl ?_
        refine Wk.getR (r := 149) (q := 65) f_Mod_7 (by decide +kernel) O_148 (by decide) rfl rfl rfl ?_
        refine Wk.iconst (n := 3) (q := 66) (by decide +kernel) rfl ?_
        refine Wk.iload_n (k := 2) (q := 67) (by decide +kernel) rfl rfl rfl ?_
        refine Wk.iastore (q := 68) (by decide +kernel) A_149 (by first | omega | exact bi_rng _) (by first | omega | exact bi_rng _) rfl ?_
        rw [iup2, iup_same]
        refine Wk.iload_n (k := 3) (q := 69) (by decide +kernel) rfl rfl rfl ?_
        exact Wk.rI (by decide +kernel) rfl (rfl)
      · omega
    · intro k f k0 k1 _ ih
      have hs := so_range (fun w => ¬ mDG I (orb (I 149 3) w) = mDG I (I 149 3)) k.toNat
      have hs2 : so (fun w => ¬ mDG I (orb (I 149 3) w) = mDG I (I 149 3)) k.toNat < 256 := Int.lt_of_lt_of_le hs.2 (by have := Nat.pow_le_pow_right (n := 2) (by decide) (show k.toNat ≤ 8 by omega); omega)
      have ho := orb_range (F := I 149 3) (w := k) (by omega) (by omega)
      have ag : mAg (iup I 149 3 (orb (I 149 3) k)) I := fun j hj => iup_ne (fun z => hj z.2)
      have hM2 : MW (iup I 149 3 (orb (I 149 3) k)) := MW_ag ag (by rw [iup_at]; exact ho) hM
      have hd1 : 0 ≤ mDG I (orb (I 149 3) k) ∧ mDG I (orb (I 149 3) k) < 32 := so_r5 _ (by omega)
      have ed := c_Mod_danger (xs := xs) (d := d) (L := L) hM2
      have ee : so (mDP (iup I 149 3 (orb (I 149 3) k)) (iup I 149 3 (orb (I 149 3) k) 149 3)) (iup I 149 3 (orb (I 149 3) k) 149 4).toNat = mDG I (orb (I 149 3) k) := by
        rw [iup_at]
        exact mDG_ag ag
      rw [ee] at ed
      rw [so_step _ k0] at ih
      refine Wk.iload (i := 4) (q := 19) (by decide +kernel) rfl rfl ?_
      refine Wk.bipush (n := 8) (q := 21) (by decide +kernel) (by decide +kernel) rfl ?_
      refine Wk.icmp_ge (off := (40)) (t := 61) (q := 24) (by decide +kernel) (by decide) rfl (by first | omega | exact bi_rng _) (by first | omega | exact bi_rng _) (fun hc21 => ?_) (fun hc21 => ?_)
      · omega
      · refine Wk.aload_n (k := 0) (q := 25) (by decide +kernel) rfl rfl rfl ?_
        refine Wk.getR (r := 149) (q := 28) f_Mod_7 (by decide +kernel) O_148 (by decide) rfl rfl rfl ?_
        refine Wk.iconst (n := 3) (q := 29) (by decide +kernel) rfl ?_
        refine Wk.iload_n (k := 2) (q := 30) (by decide +kernel) rfl rfl rfl ?_
        refine Wk.iconst (n := 1) (q := 31) (by decide +kernel) rfl ?_
        refine Wk.iload (i := 4) (q := 33) (by decide +kernel) rfl rfl ?_
        refine Wk.ishl (q := 34) (by decide +kernel) rfl ?_
        refine Wk.ior (q := 35) (by decide +kernel) rfl ?_
        refine Wk.iastore (q := 36) (by decide +kernel) A_149 (by first | omega | exact bi_rng _) (by first | omega | exact bi_rng _) rfl ?_
        rw [iup2]
        rw [show (nZ (I 149 3) ||| nZ (nZ 1 <<< (nZ k &&& 31)).toInt).toInt = orb (I 149 3) k from rfl]
        refine Wk.iload_n (k := 3) (q := 37) (by decide +kernel) rfl rfl rfl ?_
        refine Wk.aload_n (k := 0) (q := 38) (by decide +kernel) rfl rfl rfl ?_
        refine Wk.cVi (q := 41) l_Mod_93 m_Mod_danger (by decide +kernel) (fun _ h => h) O_148 rfl (Nat.le_of_ble_eq_true rfl) (Nat.le_of_ble_eq_true rfl) rfl (ed) rfl ?_
        refine Wk.iload_n (k := 1) (q := 42) (by decide +kernel) rfl rfl rfl ?_
        refine Wk.icmp_eq (off := (10)) (t := 52) (q := 45) (by decide +kernel) (by decide) rfl (by first | omega | exact bi_rng _) (by first | omega | exact bi_rng _) (fun hc42 => ?_) (fun hc42 => ?_)
        · refine Wk.iconst (n := 0) (q := 53) (by decide +kernel) rfl ?_
          refine Wk.ior (q := 54) (by decide +kernel) rfl ?_
          refine Wk.istore_n (k := 3) (q := 55) (by decide +kernel) rfl (by decide) rfl (fun _ h => h) rfl ?_
          refine Wk.iinc (i := 4) (n := 1) (q := 58) (by decide +kernel) rfl (by decide) rfl (fun _ h => h) rfl ?_
          refine Wk.goto (off := (-41)) (q := 17) (by decide +kernel) (by decide) ?_
          first
            | (rw [or_above hs.1 hs.2 k0 (by omega)]
               rw [bi_t hc42, Int.one_mul] at ih
               exact ih _ trivial)
            | (rw [or_nil hs.1 (by omega)]
               rw [bi_f (fun z => z hc42), Int.zero_mul, Int.add_zero] at ih
               exact ih _ trivial)
        · refine Wk.iconst (n := 1) (q := 46) (by decide +kernel) rfl ?_
          refine Wk.iload (i := 4) (q := 48) (by decide +kernel) rfl rfl ?_
          refine Wk.ishl (q := 49) (by decide +kernel) rfl ?_
          refine Wk.goto (off := (4)) (q := 53) (by decide +kernel) (by decide) ?_
          refine Wk.ior (q := 54) (by decide +kernel) rfl ?_
          refine Wk.istore_n (k := 3) (q := 55) (by decide +kernel) rfl (by decide) rfl (fun _ h => h) rfl ?_
          refine Wk.iinc (i := 4) (n := 1) (q := 58) (by decide +kernel) rfl (by decide) rfl (fun _ h => h) rfl ?_
          refine Wk.goto (off := (-41)) (q := 17) (by decide +kernel) (by decide) ?_
          first
            | (rw [or_above hs.1 hs.2 k0 (by omega)]
               rw [bi_t hc42, Int.one_mul] at ih
               exact ih _ trivial)
            | (rw [or_nil hs.1 (by omega)]
               rw [bi_f (fun z => z hc42), Int.zero_mul, Int.add_zero] at ih
               exact ih _ trivial)
  refine Wk.aload_n (k := 0) (q := 1) (by decide +kernel) rfl rfl rfl ?_
  refine Wk.cVi (q := 4) l_Mod_93 m_Mod_danger (by decide +kernel) (fun _ h => h) O_148 rfl (Nat.le_of_ble_eq_true rfl) (Nat.le_of_ble_eq_true rfl) rfl (c_Mod_danger hM) rfl ?_
  refine Wk.istore_n (k := 1) (q := 5) (by decide +kernel) rfl (by decide) rfl (fun _ h => h) rfl ?_
  refine Wk.aload_n (k := 0) (q := 6) (by decide +kernel) rfl rfl rfl ?_
  refine Wk.getR (r := 149) (q := 9) f_Mod_7 (by decide +kernel) O_148 (by decide) rfl rfl rfl ?_
  refine Wk.iconst (n := 3) (q := 10) (by decide +kernel) rfl ?_
  refine Wk.iaload (q := 11) (by decide +kernel) A_149 (by first | omega | exact bi_rng _) (by first | omega | exact bi_rng _) rfl ?_
  refine Wk.istore_n (k := 2) (q := 12) (by decide +kernel) rfl (by decide) rfl (fun _ h => h) rfl ?_
  refine Wk.iconst (n := 0) (q := 13) (by decide +kernel) rfl ?_
  refine Wk.istore_n (k := 3) (q := 14) (by decide +kernel) rfl (by decide) rfl (fun _ h => h) rfl ?_
  refine Wk.iconst (n := 0) (q := 15) (by decide +kernel) rfl ?_
  refine Wk.istore (i := 4) (q := 17) (by decide +kernel) (by decide) rfl (fun _ h => h) rfl ?_
  rw [iup_same] at key
  exact key
theorem c_Mod_isFree {p c m : Int} (hM : MW I) (hp : MP I p) (hc : mC I c) (hm : 0 ≤ m ∧ m ≤ 31) : Wk xs x_Mod_isFree (d + 5) 0 0 0 [some (vr 148), some (vi p), some (vi c), some (vi m), none, none] [] X2 I L (pI (bi (mFr I p m c)) I L) := by
  obtain ⟨hI, hS, hQ⟩ := id hM
  obtain ⟨hW, hH, hT, hF, hA, hK, hD⟩ := id hI
  have h49 := WH49 (W := I 149 0) (H := I 149 1) (by omega) (by omega)
  have key : Wk xs x_Mod_isFree (d + 5) 0 0 11 [some (vr 148), some (vi p), some (vi c), some (vi m), some (vi (bi (mML I (I 149 3) p c ∧ ∀ a, 0 ≤ a → a < 0 → bt m a = true ∨ ¬ mCL I (I 149 3) p c (55 + 4 * a) (I 149 (55 + 4 * a + 3))))), some (vi 0)] [] X2 I L (pI (bi (mFr I p m c)) I L) := by
    refine loopI (fun k => Wk xs x_Mod_isFree (d + 5) 0 0 11 [some (vr 148), some (vi p), some (vi c), some (vi m), some (vi (bi (mML I (I 149 3) p c ∧ ∀ a, 0 ≤ a → a < k → bt m a = true ∨ ¬ mCL I (I 149 3) p c (55 + 4 * a) (I 149 (55 + 4 * a + 3))))), some (vi k)] [] X2 I L (pI (bi (mFr I p m c)) I L)) (I 149 4) 0 (by omega) ?_ ?_
    · refine Wk.iload (i := 5) (q := 13) (by decide +kernel) rfl rfl ?_
      refine Wk.aload_n (k := 0) (q := 14) (by decide +kernel) rfl rfl rfl ?_
      refine Wk.getR (r := 149) (q := 17) f_Mod_7 (by decide +kernel) O_148 (by decide) rfl rfl rfl ?_
      refine Wk.iconst (n := 4) (q := 18) (by decide +kernel) rfl ?_
      refine Wk.iaload (q := 19) (by decide +kernel) A_149 (by first | omega | exact bi_rng _) (by first | omega | exact bi_rng _) rfl ?_
      refine Wk.icmp_ge (off := (56)) (t := 75) (q := 22) (by decide +kernel) (by decide) rfl (by first | omega | exact bi_rng _) (by first | omega | exact bi_rng _) (fun hc19 => ?_) (fun hc19 => ?_)
      · refine Wk.iload (i := 4) (q := 77) (by decide +kernel) rfl rfl ?_
        exact Wk.rZ (by decide +kernel) rfl (by first | omega | decide | exact bi_01 _) (rfl)
      · omega
    · intro k k0 k1 ih
      refine Wk.iload (i := 5) (q := 13) (by decide +kernel) rfl rfl ?_
      refine Wk.aload_n (k := 0) (q := 14) (by decide +kernel) rfl rfl rfl ?_
      refine Wk.getR (r := 149) (q := 17) f_Mod_7 (by decide +kernel) O_148 (by decide) rfl rfl rfl ?_
      refine Wk.iconst (n := 4) (q := 18) (by decide +kernel) rfl ?_
      refine Wk.iaload (q := 19) (by decide +kernel) A_149 (by first | omega | exact bi_rng _) (by first | omega | exact bi_rng _) rfl ?_
      refine Wk.icmp_ge (off := (56)) (t := 75) (q := 22) (by decide +kernel) (by decide) rfl (by first | omega | exact bi_rng _) (by first | omega | exact bi_rng _) (fun hc19 => ?_) (fun hc19 => ?_)
      · refine Wk.iload (i := 4) (q := 77) (by decide +kernel) rfl rfl ?_
        exact Wk.rZ (by decide +kernel) rfl (by first | omega | decide | exact bi_01 _) (by first | omega | (rw [bi_f hc24, bi_f (fun z => hc24 ⟨z.1, fun a a0 a1 => z.2 a a0 (by omega)⟩)]))
      · refine Wk.iload (i := 4) (q := 24) (by decide +kernel) rfl rfl ?_
        refine Wk.ifB_eq (off := (51)) (t := 75) (q := 27) (by decide +kernel) (by decide) rfl (fun hc24 => ?_) (fun hc24 => ?_)
        · refine Wk.iload (i := 4) (q := 77) (by decide +kernel) rfl rfl ?_
          exact Wk.rZ (by decide +kernel) rfl (by first | omega | decide | exact bi_01 _) (by first | omega | (rw [bi_f hc24, bi_f (fun z => hc24 ⟨z.1, fun a a0 a1 => z.2 a a0 (by omega)⟩)]))
        · refine Wk.iload_n (k := 3) (q := 28) (by decide +kernel) rfl rfl rfl ?_
          refine Wk.iload (i := 5) (q := 30) (by decide +kernel) rfl rfl ?_
          refine Wk.cSi (q := 33) l_Mod_58 m_Mod_has (by decide +kernel) (fun _ h => h) (Nat.le_of_ble_eq_true rfl) (Nat.le_of_ble_eq_true rfl) rfl (c_Mod_has (by omega) (by omega) (by omega) (by omega)) rfl ?_
          refine Wk.ifB_ne (off := (29)) (t := 62) (q := 36) (by decide +kernel) (by decide) rfl (fun hc33 => ?_) (fun hc33 => ?_)
          · refine Wk.iconst (n := 1) (q := 63) (by decide +kernel) rfl ?_
            refine Wk.goto (off := (4)) (q := 67) (by decide +kernel) (by decide) ?_
            refine Wk.istore (i := 4) (q := 69) (by decide +kernel) (by decide) rfl (fun _ h => h) rfl ?_
            refine Wk.iinc (i := 5) (n := 1) (q := 72) (by decide +kernel) rfl (by decide) rfl (fun _ h => h) rfl ?_
            refine Wk.goto (off := (-61)) (q := 11) (by decide +kernel) (by decide) ?_
            first
              | (rw [bi_t ⟨hc24.1, ext1 (P := fun a => bt m a = true ∨ ¬ mCL I (I 149 3) p c (55 + 4 * a) (I 149 (55 + 4 * a + 3))) hc24.2 (by first | exact Or.inl hc33 | exact Or.inr hc59)⟩] at ih
                 exact ih)
              | (rw [bi_f (fun z => (z.2 k k0 (by omega)).elim hc33 (fun z => z hc59))] at ih
                 exact ih)
          · refine Wk.aload_n (k := 0) (q := 37) (by decide +kernel) rfl rfl rfl ?_
            refine Wk.iload_n (k := 1) (q := 38) (by decide +kernel) rfl rfl rfl ?_
            refine Wk.iload_n (k := 2) (q := 39) (by decide +kernel) rfl rfl rfl ?_
            refine Wk.iload (i := 5) (q := 41) (by decide +kernel) rfl rfl ?_
            refine Wk.cSi (q := 44) l_Mod_77 m_Mod_shipAt (by decide +kernel) (fun _ h => h) (Nat.le_of_ble_eq_true rfl) (Nat.le_of_ble_eq_true rfl) rfl (c_Mod_shipAt) rfl ?_
            refine Wk.aload_n (k := 0) (q := 45) (by decide +kernel) rfl rfl rfl ?_
            refine Wk.getR (r := 149) (q := 48) f_Mod_7 (by decide +kernel) O_148 (by decide) rfl rfl rfl ?_
            refine Wk.iload (i := 5) (q := 50) (by decide +kernel) rfl rfl ?_
            refine Wk.cSi (q := 53) l_Mod_77 m_Mod_shipAt (by decide +kernel) (fun _ h => h) (Nat.le_of_ble_eq_true rfl) (Nat.le_of_ble_eq_true rfl) rfl (c_Mod_shipAt) rfl ?_
            refine Wk.iconst (n := 3) (q := 54) (by decide +kernel) rfl ?_
            refine Wk.iadd (q := 55) (by decide +kernel) rfl ?_
            refine Wk.iaload (q := 56) (by decide +kernel) A_149 (by first | omega | exact bi_rng _) (by first | omega | exact bi_rng _) rfl ?_
            refine Wk.cVi (q := 59) l_Mod_80 m_Mod_clash (by decide +kernel) (fun _ h => h) O_148 rfl (Nat.le_of_ble_eq_true rfl) (Nat.le_of_ble_eq_true rfl) rfl (c_Mod_clash hI hp hc (hS k k0 k1).1 (hS k k0 k1).2) rfl ?_
            refine Wk.ifB_ne (off := (7)) (t := 66) (q := 62) (by decide +kernel) (by decide) rfl (fun hc59 => ?_) (fun hc59 => ?_)
            · refine Wk.iconst (n := 0) (q := 67) (by decide +kernel) rfl ?_
              refine Wk.istore (i := 4) (q := 69) (by decide +kernel) (by decide) rfl (fun _ h => h) rfl ?_
              refine Wk.iinc (i := 5) (n := 1) (q := 72) (by decide +kernel) rfl (by decide) rfl (fun _ h => h) rfl ?_
              refine Wk.goto (off := (-61)) (q := 11) (by decide +kernel) (by decide) ?_
              first
                | (rw [bi_t ⟨hc24.1, ext1 (P := fun a => bt m a = true ∨ ¬ mCL I (I 149 3) p c (55 + 4 * a) (I 149 (55 + 4 * a + 3))) hc24.2 (by first | exact Or.inl hc33 | exact Or.inr hc59)⟩] at ih
                   exact ih)
                | (rw [bi_f (fun z => (z.2 k k0 (by omega)).elim hc33 (fun z => z hc59))] at ih
                   exact ih)
            · refine Wk.iconst (n := 1) (q := 63) (by decide +kernel) rfl ?_
              refine Wk.goto (off := (4)) (q := 67) (by decide +kernel) (by decide) ?_
              refine Wk.istore (i := 4) (q := 69) (by decide +kernel) (by decide) rfl (fun _ h => h) rfl ?_
              refine Wk.iinc (i := 5) (n := 1) (q := 72) (by decide +kernel) rfl (by decide) rfl (fun _ h => h) rfl ?_
              refine Wk.goto (off := (-61)) (q := 11) (by decide +kernel) (by decide) ?_
              first
                | (rw [bi_t ⟨hc24.1, ext1 (P := fun a => bt m a = true ∨ ¬ mCL I (I 149 3) p c (55 + 4 * a) (I 149 (55 + 4 * a + 3))) hc24.2 (by first | exact Or.inl hc33 | exact Or.inr hc59)⟩] at ih
                   exact ih)
                | (rw [bi_f (fun z => (z.2 k k0 (by omega)).elim hc33 (fun z => z hc59))] at ih
                   exact ih)
  refine Wk.aload_n (k := 0) (q := 1) (by decide +kernel) rfl rfl rfl ?_
  refine Wk.iload_n (k := 1) (q := 2) (by decide +kernel) rfl rfl rfl ?_
  refine Wk.iload_n (k := 2) (q := 3) (by decide +kernel) rfl rfl rfl ?_
  refine Wk.cVi (q := 6) l_Mod_83 m_Mod_mayLie (by decide +kernel) (fun _ h => h) O_148 rfl (Nat.le_of_ble_eq_true rfl) (Nat.le_of_ble_eq_true rfl) rfl (c_Mod_mayLie hI hp hc) rfl ?_
  refine Wk.istore (i := 4) (q := 8) (by decide +kernel) (by decide) rfl (fun _ h => h) rfl ?_
  refine Wk.iconst (n := 0) (q := 9) (by decide +kernel) rfl ?_
  refine Wk.istore (i := 5) (q := 11) (by decide +kernel) (by decide) rfl (fun _ h => h) rfl ?_
  rw [bi_cong (q := mML I (I 149 3) p c) ⟨fun z => z.1, fun z => ⟨z, fun a a0 a1 => by omega⟩⟩] at key
  exact key
end MOC
