/-! BITS, of ints as numbers and of longs -/
theorem nZ_nI {z : Int} (h : 0 ≤ z) : nZ z = nI z.toNat := by
  show Int32.ofInt z = Int32.ofNat z.toNat
  rw [← Int32.ofInt_eq_ofNat, Int.toNat_of_nonneg h]
theorem nI_nZ (n : Nat) : nI n = nZ (n : Int) := by rw [nZ_nI (by omega)]; rfl
theorem sm32 : ∀ n, n < 32 → ((nI n &&& 31).toBitVec.smod 32).toNat = n := by decide +kernel
theorem shr_int {F k : Int} (h0 : 0 ≤ F) (h1 : F ≤ 2147483647) (hk : 0 ≤ k) (hk1 : k ≤ 30) : (nZ F >>> (nZ k &&& 31)).toInt = F / (2 ^ k.toNat : Nat) := by
  rw [nZ_nI h0, nZ_nI hk, pk_shrN (by omega) _ k.toNat (sm32 _ (by omega)), nI_toInt (Nat.lt_of_le_of_lt (Nat.div_le_self _ _) (by omega)), Int.natCast_ediv, Int.toNat_of_nonneg h0]
theorem bt_div {F k : Int} (h0 : 0 ≤ F) : bt F k = true ↔ F / (2 ^ k.toNat : Nat) % 2 = 1 := by
  unfold bt
  rw [Nat.testBit_eq_decide_div_mod_eq, decide_eq_true_eq]
  constructor
  · intro h
    have : ((F.toNat / 2 ^ k.toNat % 2 : Nat) : Int) = 1 := by rw [h]; rfl
    rw [Int.natCast_emod, Int.natCast_ediv, Int.toNat_of_nonneg h0] at this
    exact this
  · intro h
    have : ((F.toNat / 2 ^ k.toNat % 2 : Nat) : Int) = 1 := by
      rw [Int.natCast_emod, Int.natCast_ediv, Int.toNat_of_nonneg h0]
      exact h
    omega
/-- (F >> k) & 1 -/
theorem bit_int {F k : Int} (h0 : 0 ≤ F) (h1 : F ≤ 2147483647) (hk : 0 ≤ k) (hk1 : k ≤ 30) : (nZ (nZ F >>> (nZ k &&& 31)).toInt &&& nZ 1).toInt = bi (bt F k = true) := by
  have hpos : (0 : Int) < (2 ^ k.toNat : Nat) := by have := Nat.two_pow_pos k.toNat; omega
  have hd0 : 0 ≤ F / (2 ^ k.toNat : Nat) := Int.ediv_nonneg h0 (by omega)
  have hd1 : F / (2 ^ k.toNat : Nat) ≤ F := Int.ediv_le_self _ h0
  rw [shr_int h0 h1 hk hk1, and_mask hd0 (by omega) 1 1 (by decide +kernel) (by omega)]
  by_cases h : bt F k = true
  · rw [bi_t h]
    exact (bt_div h0).mp h
  · rw [bi_f h]
    have := mt (bt_div (k := k) h0).mpr h
    have h2 : ((2 ^ 1 : Nat) : Int) = 2 := rfl
    rw [h2]
    omega
/-- 1 << k -/
theorem shl_one {k : Int} (hk : 0 ≤ k) (hk1 : k ≤ 30) : (nZ 1 <<< (nZ k &&& 31)).toInt = (2 ^ k.toNat : Nat) := by
  have hp : 2 ^ k.toNat ≤ 2 ^ 30 := Nat.pow_le_pow_right (by decide) (by omega)
  rw [nZ_nI (show (0 : Int) ≤ 1 by omega), nZ_nI hk, show (1 : Int).toNat = 1 from rfl, pk_shlN _ k.toNat (sm32 _ (by omega)) (by omega), nI_toInt (by omega)]
  omega
/-- a set and one bit above it -/
theorem or_above {a k : Int} (h0 : 0 ≤ a) (h1 : a < (2 ^ k.toNat : Nat)) (hk : 0 ≤ k) (hk1 : k ≤ 30) : (nZ a ||| nZ (nZ 1 <<< (nZ k &&& 31)).toInt).toInt = a + (2 ^ k.toNat : Nat) := by
  have hp : 2 ^ k.toNat ≤ 2 ^ 30 := Nat.pow_le_pow_right (by decide) (by omega)
  rw [shl_one hk hk1, nZ_nI h0, nZ_nI (show (0 : Int) ≤ ((2 ^ k.toNat : Nat) : Int) by omega)]
  have e : nI a.toNat ||| nI ((2 ^ k.toNat : Nat) : Int).toNat = nI (a.toNat + 2 ^ k.toNat) := by
    apply Int32.toBitVec_inj.1
    show BitVec.ofNat 32 _ ||| BitVec.ofNat 32 _ = BitVec.ofNat 32 _
    rw [Int.toNat_natCast]
    have e2 : a.toNat + 2 ^ k.toNat = 2 ^ k.toNat ||| a.toNat := by
      have := Nat.two_pow_add_eq_or_of_lt (i := k.toNat) (b := a.toNat) (by omega) 1
      rw [Nat.mul_one] at this
      omega
    rw [e2, Nat.or_comm]
    apply BitVec.eq_of_getLsbD_eq
    intro i hi
    simp [hi, Nat.testBit_or]
  rw [e, nI_toInt (by omega)]
  omega
/-! longs -/
theorem bl_ext {a b : Int64} (h : ∀ i : Int, 0 ≤ i → i < 64 → bl a i = bl b i) : a = b := by
  apply Int64.toBitVec_inj.1
  apply BitVec.eq_of_getLsbD_eq
  intro i hi
  exact h (i : Int) (by omega) (by omega)
theorem bl_and (a b : Int64) (i : Int) : bl (a &&& b) i = (bl a i && bl b i) := by
  unfold bl
  rw [Int64.toBitVec_and, BitVec.getLsbD_and]
theorem bl_or (a b : Int64) (i : Int) : bl (a ||| b) i = (bl a i || bl b i) := by
  unfold bl
  rw [Int64.toBitVec_or, BitVec.getLsbD_or]
theorem bl_0 (i : Int) : bl 0 i = false := by
  unfold bl
  simp
theorem bl_m1 {i : Int} (h : 0 ≤ i) (h1 : i < 64) : bl (-1) i = true := by
  unfold bl
  show (BitVec.allOnes 64).getLsbD i.toNat = true
  rw [BitVec.getLsbD_allOnes]
  simp
  omega
theorem bl_not (a : Int64) {i : Int} (h : 0 ≤ i) (h1 : i < 64) : bl (a ^^^ (-1)) i = !bl a i := by
  have h2 := bl_m1 h h1
  unfold bl at *
  rw [Int64.toBitVec_xor, BitVec.getLsbD_xor, h2]
  simp
theorem cu64 : ∀ k, k < 64 → ((nI k).toInt64.toUInt64 &&& Int64.toUInt64 63).toNat = k := by decide +kernel
theorem cs64 : ∀ k, k < 64 → (((nI k).toInt64 &&& 63).toBitVec.smod 64).toNat = k := by decide +kernel
theorem bl_ushr (w : Int64) {s i : Int} (hs : 0 ≤ s) (hs1 : s < 64) (hi : 0 ≤ i) : bl (w.toUInt64 >>> ((nZ s).toInt64.toUInt64 &&& Int64.toUInt64 63)).toInt64 i = bl w (i + s) := by
  have e : (w.toUInt64 >>> ((nZ s).toInt64.toUInt64 &&& Int64.toUInt64 63)).toInt64.toBitVec = w.toBitVec >>> s.toNat := by
    apply BitVec.eq_of_toNat_eq
    show (w.toUInt64 >>> ((nZ s).toInt64.toUInt64 &&& Int64.toUInt64 63)).toNat = _
    rw [UInt64.toNat_shiftRight, nZ_nI hs, cu64 _ (by omega), Nat.mod_eq_of_lt (by omega), BitVec.toNat_ushiftRight]
    rfl
  unfold bl
  rw [e, BitVec.getLsbD_ushiftRight]
  congr 1
  omega
theorem bl_shl (w : Int64) {s i : Int} (hs : 0 ≤ s) (hs1 : s < 64) (hi : 0 ≤ i) (hi1 : i < 64) : bl (w <<< ((nZ s).toInt64 &&& 63)) i = (decide (s ≤ i) && bl w (i - s)) := by
  unfold bl
  rw [Int64.toBitVec_shiftLeft]
  show (w.toBitVec <<< (((nZ s).toInt64 &&& 63).toBitVec.smod 64).toNat).getLsbD i.toNat = _
  rw [nZ_nI hs, cs64 _ (by omega), BitVec.getLsbD_shiftLeft]
  by_cases h : s ≤ i
  · have e : (i - s).toNat = i.toNat - s.toNat := by omega
    have e2 : ¬ i.toNat < s.toNat := by omega
    have e3 : i.toNat < 64 := by omega
    simp [h, e, e2, e3]
  · have e2 : i.toNat < s.toNat := by omega
    simp [h, e2]
theorem bl_1 {i : Int} (h : 0 ≤ i) : bl 1 i = decide (i = 0) := by
  unfold bl
  show (1#64).getLsbD i.toNat = _
  rw [BitVec.getLsbD_one]
  by_cases h0 : i = 0
  · subst h0; rfl
  · have : ¬ i.toNat = 0 := by omega
    simp [h0, this]
/-- 1L << s -/
theorem bl_one {s i : Int} (hs : 0 ≤ s) (hs1 : s < 64) (hi : 0 ≤ i) (hi1 : i < 64) : bl ((1 : Int64) <<< ((nZ s).toInt64 &&& 63)) i = decide (i = s) := by
  rw [bl_shl 1 hs hs1 hi hi1]
  by_cases h : s ≤ i
  · rw [bl_1 (by omega)]
    by_cases h2 : i = s
    · subst h2; simp
    · have : ¬ i - s = 0 := by omega
      simp [h2, this]
  · have : ¬ i = s := by omega
    simp [h, this]
/-- ((w >>> s) & 1L) is 0 or not -/
theorem bl_holds (w : Int64) {s : Int} (hs : 0 ≤ s) (hs1 : s < 64) : ((w.toUInt64 >>> ((nZ s).toInt64.toUInt64 &&& Int64.toUInt64 63)).toInt64 &&& 1) = 0 ↔ bl w s = false := by
  constructor
  · intro h
    have h1 := congrArg (fun x => bl x 0) h
    simp only [bl_and, bl_0, bl_1 (Int.le_refl 0), bl_ushr w hs hs1 (Int.le_refl 0), Int.zero_add] at h1
    simpa using h1
  · intro h
    apply bl_ext
    intro i h0 h1
    rw [bl_and, bl_0, bl_1 h0, bl_ushr w hs hs1 h0]
    by_cases h2 : i = 0
    · subst h2
      rw [Int.zero_add, h]
      simp
    · simp [h2]
theorem bl_zero {w : Int64} : w = 0 ↔ ∀ i : Int, 0 ≤ i → i < 64 → bl w i = false := by
  constructor
  · intro h i _ _
    rw [h, bl_0]
  · intro h
    apply bl_ext
    intro i h0 h1
    rw [h i h0 h1, bl_0]
/-- sets of numbers under n as an int; how many -/
noncomputable def so (P : Int → Prop) : Nat → Int
  | 0 => 0
  | n + 1 => so P n + bi (P n) * (2 ^ n : Nat)
noncomputable def ct (P : Int → Prop) : Nat → Int
  | 0 => 0
  | n + 1 => ct P n + bi (P n)
theorem so_range (P : Int → Prop) : ∀ n, 0 ≤ so P n ∧ so P n < (2 ^ n : Nat)
  | 0 => by simp [so]
  | n + 1 => by
    have h := so_range P n
    have hb := bi_01 (P n)
    have hp : (2 ^ (n + 1) : Nat) = 2 ^ n + 2 ^ n := by rw [Nat.pow_succ]; omega
    simp only [so, hp]
    rcases hb with e | e <;> rw [e] <;> constructor <;> omega
theorem so_cong {P Q : Int → Prop} : ∀ {n : Nat}, (∀ k : Int, 0 ≤ k → k < n → (P k ↔ Q k)) → so P n = so Q n
  | 0, _ => rfl
  | n + 1, h => by
    simp only [so]
    rw [so_cong (fun k h0 h1 => h k h0 (by omega)), bi_cong (h n (by omega) (by omega))]
theorem ct_cong {P Q : Int → Prop} : ∀ {n : Nat}, (∀ k : Int, 0 ≤ k → k < n → (P k ↔ Q k)) → ct P n = ct Q n
  | 0, _ => rfl
  | n + 1, h => by
    simp only [ct]
    rw [ct_cong (fun k h0 h1 => h k h0 (by omega)), bi_cong (h n (by omega) (by omega))]
theorem ct_range (P : Int → Prop) : ∀ n : Nat, 0 ≤ ct P n ∧ ct P n ≤ n
  | 0 => by simp [ct]
  | n + 1 => by
    have h := ct_range P n
    have hb := bi_range (P n)
    simp only [ct]
    omega
theorem so_step (P : Int → Prop) {k : Int} (h : 0 ≤ k) : so P (k + 1).toNat = so P k.toNat + bi (P k) * (2 ^ k.toNat : Nat) := by
  have e : (k + 1).toNat = k.toNat + 1 := by omega
  rw [e]
  simp only [so]
  rw [Int.toNat_of_nonneg h]
theorem ct_step (P : Int → Prop) {k : Int} (h : 0 ≤ k) : ct P (k + 1).toNat = ct P k.toNat + bi (P k) := by
  have e : (k + 1).toNat = k.toNat + 1 := by omega
  rw [e]
  simp only [ct]
  rw [Int.toNat_of_nonneg h]
theorem so_zero {P : Int → Prop} : ∀ {n : Nat}, so P n = 0 ↔ ∀ k : Int, 0 ≤ k → k < n → ¬ P k
  | 0 => by simp [so]; intro k h0 h1; omega
  | n + 1 => by
    have h := so_range P n
    have hp := Nat.two_pow_pos n
    have ih := so_zero (P := P) (n := n)
    simp only [so]
    constructor
    · intro e k h0 h1
      rcases bi_01 (P n) with b | b
      · rw [b] at e
        by_cases hk : k = n
        · subst hk
          exact bi_eq0.mp b
        · exact ih.mp (by omega) k h0 (by omega)
      · rw [b] at e
        omega
    · intro e
      rw [bi_f (e n (by omega) (by omega)), ih.mpr (fun k h0 h1 => e k h0 (by omega))]
      omega
/-- the bits of such a set -/
theorem so_bt {P : Int → Prop} : ∀ {n : Nat} {k : Int}, 0 ≤ k → k < n → (bt (so P n) k = true ↔ P k)
  | 0, k, h0, h1 => by omega
  | n + 1, k, h0, h1 => by
    have h := so_range P n
    have h2 := so_range P (n + 1)
    have hp := Nat.two_pow_pos n
    unfold bt
    have e : (so P (n + 1)).toNat = 2 ^ n * (bi (P n)).toNat + (so P n).toNat := by
      simp only [so]
      rcases bi_01 (P n) with b | b <;> rw [b]
      · simp
      · have : (1 : Int).toNat = 1 := rfl
        rw [this]
        omega
    rw [e]
    by_cases hk : k = n
    · subst hk
      rw [show ((n : Int)).toNat = n from by omega, Nat.testBit_two_pow_mul_add _ (by omega)]
      simp only [Nat.lt_irrefl, if_false, Nat.sub_self]
      rcases bi_01 (P n) with b | b
      · rw [b]
        simp [bi_eq0.mp b]
      · rw [b]
        simp [bi_eq1.mp b]
    · rw [Nat.testBit_two_pow_mul_add _ (by omega), if_pos (by omega)]
      exact so_bt (n := n) h0 (by omega)
