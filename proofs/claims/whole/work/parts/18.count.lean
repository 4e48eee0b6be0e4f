/-! HOW MANY BITS: the library's two methods -/
/-- of an int under 32 -/
def cb5 (s : Nat) : Int := (if s.testBit 0 then 1 else 0) + (if s.testBit 1 then 1 else 0) + (if s.testBit 2 then 1 else 0) + (if s.testBit 3 then 1 else 0) + (if s.testBit 4 then 1 else 0)
theorem bi_dec {p : Prop} [Decidable p] : bi p = if p then 1 else 0 := by
  by_cases h : p
  · rw [bi_t h, if_pos h]
  · rw [bi_f h, if_neg h]
theorem ct5 (s : Nat) : ct (fun b => bt (s : Int) b = true) 5 = cb5 s := by
  simp only [ct, bt, cb5, bi_dec, Int.toNat_natCast]
  simp
section BC
variable {xs : RO} {d : Nat} {I : IM} {L : LM}

theorem c_Integer_bitCount {s : Int} (h0 : 0 ≤ s) (h1 : s < 32) : Wk xs x_Integer_bitCount d 0 0 0 [some (vi s)] [] X2 I L (pI (ct (fun b => bt s b = true) 5) I L) := by
  obtain ⟨n, rfl⟩ := Int.eq_ofNat_of_zero_le h0
  have hn : n < 32 := by omega
  clear h0 h1
  refine Wk.iload_n (k := 0) (q := 1) (by decide +kernel) rfl rfl rfl ?_
  refine Wk.iload_n (k := 0) (q := 2) (by decide +kernel) rfl rfl rfl ?_
  refine Wk.iconst (n := 1) (q := 3) (by decide +kernel) rfl ?_
  refine Wk.iushr (q := 4) (by decide +kernel) rfl ?_
  refine Wk.ldcw (z := 1431655765) (q := 7) k_Integer_265 (by decide +kernel) (by decide +kernel) rfl ?_
  refine Wk.iand (q := 8) (by decide +kernel) rfl ?_
  refine Wk.isub (q := 9) (by decide +kernel) rfl ?_
  refine Wk.istore_n (k := 0) (q := 10) (by decide +kernel) rfl (by decide) rfl (fun _ h => h) rfl ?_
  refine Wk.iload_n (k := 0) (q := 11) (by decide +kernel) rfl rfl rfl ?_
  refine Wk.ldcw (z := 858993459) (q := 14) k_Integer_266 (by decide +kernel) (by decide +kernel) rfl ?_
  refine Wk.iand (q := 15) (by decide +kernel) rfl ?_
  refine Wk.iload_n (k := 0) (q := 16) (by decide +kernel) rfl rfl rfl ?_
  refine Wk.iconst (n := 2) (q := 17) (by decide +kernel) rfl ?_
  refine Wk.iushr (q := 18) (by decide +kernel) rfl ?_
  refine Wk.ldcw (z := 858993459) (q := 21) k_Integer_266 (by decide +kernel) (by decide +kernel) rfl ?_
  refine Wk.iand (q := 22) (by decide +kernel) rfl ?_
  refine Wk.iadd (q := 23) (by decide +kernel) rfl ?_
  refine Wk.istore_n (k := 0) (q := 24) (by decide +kernel) rfl (by decide) rfl (fun _ h => h) rfl ?_
  refine Wk.iload_n (k := 0) (q := 25) (by decide +kernel) rfl rfl rfl ?_
  refine Wk.iload_n (k := 0) (q := 26) (by decide +kernel) rfl rfl rfl ?_
  refine Wk.iconst (n := 4) (q := 27) (by decide +kernel) rfl ?_
  refine Wk.iushr (q := 28) (by decide +kernel) rfl ?_
  refine Wk.iadd (q := 29) (by decide +kernel) rfl ?_
  refine Wk.ldcw (z := 252645135) (q := 32) k_Integer_267 (by decide +kernel) (by decide +kernel) rfl ?_
  refine Wk.iand (q := 33) (by decide +kernel) rfl ?_
  refine Wk.istore_n (k := 0) (q := 34) (by decide +kernel) rfl (by decide) rfl (fun _ h => h) rfl ?_
  refine Wk.iload_n (k := 0) (q := 35) (by decide +kernel) rfl rfl rfl ?_
  refine Wk.iload_n (k := 0) (q := 36) (by decide +kernel) rfl rfl rfl ?_
  refine Wk.bipush (n := 8) (q := 38) (by decide +kernel) (by decide +kernel) rfl ?_
  refine Wk.iushr (q := 39) (by decide +kernel) rfl ?_
  refine Wk.iadd (q := 40) (by decide +kernel) rfl ?_
  refine Wk.istore_n (k := 0) (q := 41) (by decide +kernel) rfl (by decide) rfl (fun _ h => h) rfl ?_
  refine Wk.iload_n (k := 0) (q := 42) (by decide +kernel) rfl rfl rfl ?_
  refine Wk.iload_n (k := 0) (q := 43) (by decide +kernel) rfl rfl rfl ?_
  refine Wk.bipush (n := 16) (q := 45) (by decide +kernel) (by decide +kernel) rfl ?_
  refine Wk.iushr (q := 46) (by decide +kernel) rfl ?_
  refine Wk.iadd (q := 47) (by decide +kernel) rfl ?_
  refine Wk.istore_n (k := 0) (q := 48) (by decide +kernel) rfl (by decide) rfl (fun _ h => h) rfl ?_
  refine Wk.iload_n (k := 0) (q := 49) (by decide +kernel) rfl rfl rfl ?_
  refine Wk.bipush (n := 63) (q := 51) (by decide +kernel) (by decide +kernel) rfl ?_
  refine Wk.iand (q := 52) (by decide +kernel) rfl ?_
  exact Wk.rI (by decide +kernel) rfl (by rw [ct5]; revert n; decide +kernel)
end BC
/-! of a long: by bytes -/
theorem and_lo (a M c : Nat) (hc : c < 256) : a &&& (256 * M + c) = 256 * ((a / 256) &&& M) + ((a % 256) &&& c) := by
  apply Nat.eq_of_testBit_eq
  intro i
  have e0 : (a % 256) &&& c < 2 ^ 8 := Nat.and_lt_two_pow _ (by omega)
  rw [show (256 : Nat) = 2 ^ 8 from rfl, Nat.testBit_and, Nat.testBit_two_pow_mul_add _ (by omega), Nat.testBit_two_pow_mul_add _ e0]
  by_cases hi : i < 8
  · have e1 := Nat.testBit_mod_two_pow a 8 i
    rw [if_pos hi, if_pos hi, Nat.testBit_and, show a % 256 = a % 2 ^ 8 from rfl, e1]
    simp [hi]
  · rw [if_neg hi, if_neg hi, Nat.testBit_and, Nat.testBit_div_two_pow]
    congr 2
    omega
/-- masks of k bytes; the three steps within bytes -/
def mk (c : Nat) : Nat → Nat
  | 0 => 0
  | k + 1 => 256 * mk c k + c
def s1 (k n : Nat) : Nat := n - ((n / 2) &&& mk 0x55 k)
def s2 (k n : Nat) : Nat := (n &&& mk 0x33 k) + ((n / 4) &&& mk 0x33 k)
def s3 (k n : Nat) : Nat := (n + n / 16) &&& mk 0x0f k
theorem d1 : ∀ c, c < 256 → ∀ b, b < 2 → ((c / 2 + 128 * b) &&& 0x55) = (c / 2) &&& 0x55 := by decide +kernel
theorem d1b : ∀ c, c < 256 → (c / 2) &&& 0x55 ≤ c := by decide +kernel
theorem d2 : ∀ c, c < 256 → ∀ b, b < 4 → ((c / 4 + 64 * b) &&& 0x33) = (c / 4) &&& 0x33 := by decide +kernel
def pb (c : Nat) : Nat := c % 2 + c / 2 % 2 + c / 4 % 2 + c / 8 % 2 + c / 16 % 2 + c / 32 % 2 + c / 64 % 2 + c / 128 % 2
def b2 (c : Nat) : Nat := let e := c - ((c / 2) &&& 0x55); (e &&& 0x33) + ((e / 4) &&& 0x33)
theorem d3 : ∀ c, c < 256 → b2 c % 16 ≤ 4 ∧ b2 c / 16 ≤ 4 ∧ b2 c < 256 ∧ b2 c % 16 + b2 c / 16 = pb c ∧ c - ((c / 2) &&& 0x55) < 256 := by decide +kernel
theorem s1_step (k n : Nat) : s1 (k + 1) n = 256 * s1 k (n / 256) + (n % 256 - ((n % 256 / 2) &&& 0x55)) ∧ (n / 2) &&& mk 0x55 (k + 1) ≤ n := by
  have hle : ∀ (k n : Nat), (n / 2) &&& mk 0x55 k ≤ n := fun k n => Nat.le_trans (Nat.and_le_left) (Nat.div_le_self _ _)
  have e : (n / 2) &&& mk 0x55 (k + 1) = 256 * ((n / 256 / 2) &&& mk 0x55 k) + ((n % 256 / 2) &&& 0x55) := by
    rw [mk, and_lo _ _ _ (by omega)]
    have e1 : n / 2 / 256 = n / 256 / 2 := by omega
    have e2 : n / 2 % 256 = n % 256 / 2 + 128 * (n / 256 % 2) := by omega
    rw [e1, e2, d1 _ (by omega) _ (by omega)]
  refine ⟨?_, hle _ _⟩
  unfold s1
  rw [e]
  have h1 := hle k (n / 256)
  have h2 := d1b (n % 256) (by omega)
  omega
theorem s2_step (k n : Nat) : s2 (k + 1) n = 256 * s2 k (n / 256) + ((n % 256 &&& 0x33) + ((n % 256 / 4) &&& 0x33)) := by
  unfold s2
  rw [mk, and_lo _ _ _ (by omega), and_lo _ _ _ (by omega)]
  have e1 : n / 4 / 256 = n / 256 / 4 := by omega
  have e2 : n / 4 % 256 = n % 256 / 4 + 64 * (n / 256 % 4) := by omega
  rw [e1, e2, d2 _ (by omega) _ (by omega)]
  omega
/-- the sum of the bytes' bits, each in its byte -/
def sb : Nat → Nat → Nat
  | 0, _ => 0
  | k + 1, n => 256 * sb k (n / 256) + pb (n % 256)
theorem s12_step (k n : Nat) : s2 (k + 1) (s1 (k + 1) n) = 256 * s2 k (s1 k (n / 256)) + b2 (n % 256) := by
  have h := (s1_step k n).1
  have h3 := (d3 (n % 256) (by omega)).2.2.2.2
  rw [s2_step, h]
  have e1 : (256 * s1 k (n / 256) + (n % 256 - ((n % 256 / 2) &&& 0x55))) / 256 = s1 k (n / 256) := by omega
  have e2 : (256 * s1 k (n / 256) + (n % 256 - ((n % 256 / 2) &&& 0x55))) % 256 = n % 256 - ((n % 256 / 2) &&& 0x55) := by omega
  rw [e1, e2]
  rfl
theorem s123 : ∀ (k n : Nat), s3 k (s2 k (s1 k n)) = sb k n ∧ s2 k (s1 k n) % 16 ≤ 4
  | 0, n => by simp [s3, s2, s1, mk, sb]
  | k + 1, n => by
    obtain ⟨ih, ihm⟩ := s123 k (n / 256)
    obtain ⟨c1, c2, c3, c4, -⟩ := d3 (n % 256) (by omega)
    rw [s12_step]
    generalize hm : s2 k (s1 k (n / 256)) = m at ih ihm
    generalize hb : b2 (n % 256) = c at c1 c2 c3 c4
    refine ⟨?_, by omega⟩
    unfold s3 at ih ⊢
    rw [mk, and_lo _ _ _ (by omega)]
    have e1 : (256 * m + c + (256 * m + c) / 16) / 256 = m + m / 16 := by omega
    have e2 : (256 * m + c + (256 * m + c) / 16) % 256 = c + c / 16 + 16 * (m % 16) := by omega
    rw [e1, e2, ih, sb]
    have e3 : (c + c / 16 + 16 * (m % 16)) &&& 0x0f = (c + c / 16 + 16 * (m % 16)) % 16 := Nat.and_two_pow_sub_one_eq_mod _ 4
    rw [e3]
    omega
theorem pb_le : ∀ c, pb c ≤ 8 := fun c => by unfold pb; omega
/-- the bytes of sb, and their sum -/
def sm8 : Nat → Nat → Nat
  | 0, _ => 0
  | k + 1, n => sm8 k (n / 256) + pb (n % 256)
theorem dv {m q r : Nat} (h : r < m) : (m * q + r) / m = q := by
  rw [Nat.mul_add_div (by omega), Nat.div_eq_of_lt h, Nat.add_zero]
theorem fr2 {A0 A1 A2 A3 r0 r1 r2 : Nat} (h0 : A0 = 256 * A1 + r0) (h1 : A1 = 256 * A2 + r1) (h2 : A2 = 256 * A3 + r2) : A0 + A1 = 65536 * (A2 + A3) + (256 * (r1 + r2) + (r0 + r1)) := by omega
theorem fr3 {A0 A1 A2 A3 A4 r0 r1 r2 r3 : Nat} (h0 : A0 = 256 * A1 + r0) (h1 : A1 = 256 * A2 + r1) (h2 : A2 = 256 * A3 + r2) (h3 : A3 = 256 * A4 + r3) : A0 = 4294967296 * A4 + (16777216 * r3 + 65536 * r2 + 256 * r1 + r0) := by omega
theorem fold_r {A0 A1 A2 A3 A4 A5 A6 A7 r0 r1 r2 r3 r4 r5 r6 r7 : Nat} (h0 : A0 = 256 * A1 + r0) (h1 : A1 = 256 * A2 + r1) (h2 : A2 = 256 * A3 + r2) (h3 : A3 = 256 * A4 + r3) (h4 : A4 = 256 * A5 + r4) (h5 : A5 = 256 * A6 + r5) (h6 : A6 = 256 * A7 + r6) (h7 : A7 = 256 * 0 + r7) (g0 : r0 ≤ 8) (g1 : r1 ≤ 8) (g2 : r2 ≤ 8) (g3 : r3 ≤ 8) (g4 : r4 ≤ 8) (g5 : r5 ≤ 8) (g6 : r6 ≤ 8) (g7 : r7 ≤ 8) : (A0 + A0 / 256 + (A0 + A0 / 256) / 65536 + (A0 + A0 / 256 + (A0 + A0 / 256) / 65536) / 4294967296) % 128 = r0 + r1 + r2 + r3 + r4 + r5 + r6 + r7 := by
  have e1 : A0 / 256 = A1 := by rw [h0]; exact dv (by omega)
  have e2 : (A0 + A1) / 65536 = A2 + A3 := by
    rw [fr2 h0 h1 h2]
    exact dv (by clear h0 h1 h2 h3 h4 h5 h6 h7 e1; omega)
  have e3 : (A0 + A1 + (A2 + A3)) / 4294967296 = A4 + A5 + A6 + A7 := by
    have q0 := fr3 h0 h1 h2 h3
    have q1 := fr3 h1 h2 h3 h4
    have q2 := fr3 h2 h3 h4 h5
    have q3 := fr3 h3 h4 h5 h6
    have q : A0 + A1 + (A2 + A3) = 4294967296 * (A4 + A5 + A6 + A7) + ((16777216 * r3 + 65536 * r2 + 256 * r1 + r0) + (16777216 * r4 + 65536 * r3 + 256 * r2 + r1) + (16777216 * r5 + 65536 * r4 + 256 * r3 + r2) + (16777216 * r6 + 65536 * r5 + 256 * r4 + r3)) := by
      clear h0 h1 h2 h3 h4 h5 h6 h7 e1 e2
      rw [q0, q1, q2, q3]
      simp only [Nat.mul_add]
      ac_rfl
    rw [q]
    exact dv (by clear h0 h1 h2 h3 h4 h5 h6 h7 e1 e2 q0 q1 q2 q3 q; omega)
  rw [e1, e2, e3]
  have q : A0 + A1 + (A2 + A3) + (A4 + A5 + A6 + A7) = 128 * (2 * (A1 + A2 + A3 + A4 + A5 + A6 + A7)) + (r0 + r1 + r2 + r3 + r4 + r5 + r6 + r7) := by
    clear g0 g1 g2 g3 g4 g5 g6 g7 e1 e2 e3
    omega
  rw [q, Nat.mul_add_mod]
  exact Nat.mod_eq_of_lt (by clear h0 h1 h2 h3 h4 h5 h6 h7 e1 e2 e3 q; omega)
theorem fold8 (n : Nat) : (sb 8 n + sb 8 n / 256 + (sb 8 n + sb 8 n / 256) / 65536 + (sb 8 n + sb 8 n / 256 + (sb 8 n + sb 8 n / 256) / 65536) / 4294967296) % 128 = sm8 8 n := by
  have h := fold_r (A0 := sb 8 n) (A1 := sb 7 (n / 256)) (A2 := sb 6 (n / 256 / 256)) (A3 := sb 5 (n / 256 / 256 / 256)) (A4 := sb 4 (n / 256 / 256 / 256 / 256)) (A5 := sb 3 (n / 256 / 256 / 256 / 256 / 256)) (A6 := sb 2 (n / 256 / 256 / 256 / 256 / 256 / 256)) (A7 := sb 1 (n / 256 / 256 / 256 / 256 / 256 / 256 / 256)) (r0 := pb ((n) % 256)) (r1 := pb ((n / 256) % 256)) (r2 := pb ((n / 256 / 256) % 256)) (r3 := pb ((n / 256 / 256 / 256) % 256)) (r4 := pb ((n / 256 / 256 / 256 / 256) % 256)) (r5 := pb ((n / 256 / 256 / 256 / 256 / 256) % 256)) (r6 := pb ((n / 256 / 256 / 256 / 256 / 256 / 256) % 256)) (r7 := pb ((n / 256 / 256 / 256 / 256 / 256 / 256 / 256) % 256)) rfl rfl rfl rfl rfl rfl rfl rfl (pb_le _) (pb_le _) (pb_le _) (pb_le _) (pb_le _) (pb_le _) (pb_le _) (pb_le _)
  rw [h]
  simp only [sm8]
  omega
theorem sb_ar {u v p : Nat} (h : u + 8 ≤ v) (hp : p ≤ 8) : 256 * u + p * 255 + 8 ≤ 256 * v := by omega
theorem sb_lt : ∀ (k n : Nat), sb k n * 255 + 8 ≤ 8 * 256 ^ k
  | 0, n => by simp [sb]
  | k + 1, n => by
    have h := sb_lt k (n / 256)
    have hp := pb_le (n % 256)
    simp only [sb, Nat.pow_succ]
    generalize 256 ^ k = z at h ⊢
    generalize sb k (n / 256) = y at h ⊢
    generalize pb (n % 256) = p at hp ⊢
    have h2 : (256 * y + p) * 255 = 256 * (y * 255) + p * 255 := by rw [Nat.add_mul, Nat.mul_assoc]
    have h3 : 8 * (z * 256) = 256 * (8 * z) := by rw [Nat.mul_comm z 256, Nat.mul_left_comm]
    rw [h2, h3]
    exact sb_ar h hp
/-- as a count over places -/
theorem ct_split (P : Int → Prop) (m : Nat) : ∀ n : Nat, ct P (m + n) = ct P m + ct (fun k => P (k + m)) n
  | 0 => by simp [ct]
  | n + 1 => by
    rw [show m + (n + 1) = (m + n) + 1 from rfl]
    simp only [ct]
    rw [ct_split P m n, show ((m + n : Nat) : Int) = (n : Int) + m by omega]
    omega
theorem pb_ct : ∀ c, c < 256 → (pb c : Int) = (if c.testBit 0 then 1 else 0) + (if c.testBit 1 then 1 else 0) + (if c.testBit 2 then 1 else 0) + (if c.testBit 3 then 1 else 0) + (if c.testBit 4 then 1 else 0) + (if c.testBit 5 then 1 else 0) + (if c.testBit 6 then 1 else 0) + (if c.testBit 7 then 1 else 0) := by decide +kernel
theorem ct8 (n : Nat) : ct (fun b => n.testBit b.toNat = true) 8 = (pb (n % 256) : Int) := by
  rw [pb_ct _ (by omega)]
  simp only [ct, bi_dec, show (256 : Nat) = 2 ^ 8 from rfl, Nat.testBit_mod_two_pow]
  simp
theorem ct_sm : ∀ (k n : Nat), ct (fun b => n.testBit b.toNat = true) (8 * k) = (sm8 k n : Int)
  | 0, n => by simp [ct, sm8]
  | k + 1, n => by
    rw [show 8 * (k + 1) = 8 + 8 * k by omega, ct_split, ct8]
    have e : ct (fun b => n.testBit (b + (8 : Nat)).toNat = true) (8 * k) = ct (fun b => (n / 256).testBit b.toNat = true) (8 * k) := ct_cong (fun b h0 h1 => by
      rw [show (256 : Nat) = 2 ^ 8 from rfl, Nat.testBit_div_two_pow]
      have : (b + (8 : Nat)).toNat = b.toNat + 8 := by omega
      rw [this])
    rw [e, ct_sm k (n / 256), sm8]
    omega
/-- a long as the number that its bits are -/
def un (x : Int64) : Nat := x.toBitVec.toNat
theorem un_lt (x : Int64) : un x < 2 ^ 64 := x.toBitVec.isLt
theorem un_and (a b : Int64) : un (a &&& b) = un a &&& un b := by unfold un; rw [Int64.toBitVec_and, BitVec.toNat_and]
theorem un_add {a b : Int64} (h : un a + un b < 2 ^ 64) : un (a + b) = un a + un b := by
  unfold un at *
  rw [Int64.toBitVec_add, BitVec.toNat_add, Nat.mod_eq_of_lt h]
theorem un_sub {a b : Int64} (h : un b ≤ un a) : un (a - b) = un a - un b := by
  have ha := un_lt a
  unfold un at *
  rw [Int64.toBitVec_sub, BitVec.toNat_sub]
  omega
theorem un_shr (x : Int64) {k : Int} (h0 : 0 ≤ k) (h1 : k < 64) : un (x.toUInt64 >>> ((nZ k).toInt64.toUInt64 &&& Int64.toUInt64 63)).toInt64 = un x / 2 ^ k.toNat := by
  show (x.toUInt64 >>> ((nZ k).toInt64.toUInt64 &&& Int64.toUInt64 63)).toNat = _
  rw [UInt64.toNat_shiftRight, nZ_nI h0, cu64 _ (by omega), Nat.mod_eq_of_lt (by omega), Nat.shiftRight_eq_div_pow]
  rfl
theorem m55 : un 6148914691236517205 = mk 0x55 8 := by decide +kernel
theorem m33 : un 3689348814741910323 = mk 0x33 8 := by decide +kernel
theorem m0f : un 1085102592571150095 = mk 0x0f 8 := by decide +kernel
theorem low7 (x : Int64) : (nZ x.toInt32.toInt &&& nZ 127).toInt = (un x % 128 : Nat) := by
  rw [nZ_self, pk_and x.toInt32 7 (by decide +kernel)]
  have e : x.toInt32.toBitVec.toNat = un x % 2 ^ 32 := by
    rw [Int64.toBitVec_toInt32, BitVec.signExtend_eq_setWidth_of_le _ (by omega), BitVec.toNat_setWidth]
    rfl
  rw [e, Nat.mod_mod_of_dvd _ (by decide), nI_toInt (Nat.lt_of_lt_of_le (Nat.mod_lt _ (by decide)) (by decide))]
theorem un_pop {w x1 x2 x3 x4 x5 x6 : Int64} (h1 : x1 = w - ((w.toUInt64 >>> ((nZ 1).toInt64.toUInt64 &&& Int64.toUInt64 63)).toInt64 &&& 6148914691236517205)) (h2 : x2 = (x1 &&& 3689348814741910323) + ((x1.toUInt64 >>> ((nZ 2).toInt64.toUInt64 &&& Int64.toUInt64 63)).toInt64 &&& 3689348814741910323)) (h3 : x3 = (x2 + (x2.toUInt64 >>> ((nZ 4).toInt64.toUInt64 &&& Int64.toUInt64 63)).toInt64) &&& 1085102592571150095) (h4 : x4 = x3 + (x3.toUInt64 >>> ((nZ 8).toInt64.toUInt64 &&& Int64.toUInt64 63)).toInt64) (h5 : x5 = x4 + (x4.toUInt64 >>> ((nZ 16).toInt64.toUInt64 &&& Int64.toUInt64 63)).toInt64) (h6 : x6 = x5 + (x5.toUInt64 >>> ((nZ 32).toInt64.toUInt64 &&& Int64.toUInt64 63)).toInt64) : ((un x6 % 128 : Nat) : Int) = ct (fun s => bl w s = true) 64 := by
  have e1 : un x1 = s1 8 (un w) := by
    rw [h1, un_sub, un_and, un_shr w (by omega) (by omega), m55]
    · rfl
    · rw [un_and, un_shr w (by omega) (by omega)]
      exact Nat.le_trans Nat.and_le_left (Nat.div_le_self _ _)
  have b33 : mk 0x33 8 = 3689348814741910323 := by decide +kernel
  have e2 : un x2 = s2 8 (un x1) ∧ un x2 ≤ 7378697629483820646 := by
    have q1 : un x1 &&& mk 0x33 8 ≤ mk 0x33 8 := Nat.and_le_right
    have q2 : (un x1 / 2 ^ (2 : Int).toNat) &&& mk 0x33 8 ≤ mk 0x33 8 := Nat.and_le_right
    rw [h2, un_add, un_and, un_and, un_shr x1 (by omega) (by omega), m33]
    · exact ⟨rfl, by omega⟩
    · rw [un_and, un_and, un_shr x1 (by omega) (by omega), m33]
      omega
  have e3 : un x3 = s3 8 (un x2) := by
    have q := Nat.div_le_self (un x2) 16
    rw [h3, un_and, un_add, un_shr x2 (by omega) (by omega), m0f]
    · rfl
    · rw [un_shr x2 (by omega) (by omega)]
      show un x2 + un x2 / 16 < 2 ^ 64
      have := e2.2
      omega
  have e3b : un x3 = sb 8 (un w) := by rw [e3, e2.1, e1]; exact (s123 8 (un w)).1
  have hs := sb_lt 8 (un w)
  rw [← e3b] at hs
  have hs2 : un x3 ≤ 600000000000000000 := by
    have : (256 : Nat) ^ 8 = 18446744073709551616 := by decide
    rw [this] at hs
    omega
  clear hs
  have e4 : un x4 = un x3 + un x3 / 256 := by
    rw [h4, un_add, un_shr x3 (by omega) (by omega)]
    · rfl
    · rw [un_shr x3 (by omega) (by omega)]
      show un x3 + un x3 / 256 < 2 ^ 64
      omega
  have e5 : un x5 = un x4 + un x4 / 65536 := by
    rw [h5, un_add, un_shr x4 (by omega) (by omega)]
    · rfl
    · rw [un_shr x4 (by omega) (by omega)]
      show un x4 + un x4 / 65536 < 2 ^ 64
      omega
  have e6 : un x6 = un x5 + un x5 / 4294967296 := by
    rw [h6, un_add, un_shr x5 (by omega) (by omega)]
    · rfl
    · rw [un_shr x5 (by omega) (by omega)]
      show un x5 + un x5 / 4294967296 < 2 ^ 64
      omega
  rw [e6, e5, e4, e3b, fold8, ← ct_sm 8 (un w)]
  rfl
section BL
variable {xs : RO} {d : Nat} {I : IM} {L : LM}

theorem c_Long_bitCount {w : Int64} : Wk xs x_Long_bitCount d 0 0 0 [some (vl w), none] [] X2 I L (pI (ct (fun s => bl w s = true) 64) I L) := by
  refine Wk.lload_n (k := 0) (q := 1) (by decide +kernel) rfl rfl rfl ?_
  refine Wk.lload_n (k := 0) (q := 2) (by decide +kernel) rfl rfl rfl ?_
  refine Wk.iconst (n := 1) (q := 3) (by decide +kernel) rfl ?_
  refine Wk.lushr (q := 4) (by decide +kernel) rfl ?_
  refine Wk.ldc2 (q := 7) k_Long_314 (by decide +kernel) rfl ?_
  refine Wk.land (q := 8) (by decide +kernel) rfl ?_
  refine Wk.lsub (q := 9) (by decide +kernel) rfl ?_
  refine Wk.lstore_n (k := 0) (q := 10) (by decide +kernel) rfl (by decide) rfl (fun _ h => h) rfl ?_
  generalize hx1 : w - ((w.toUInt64 >>> ((nZ 1).toInt64.toUInt64 &&& Int64.toUInt64 63)).toInt64 &&& 6148914691236517205) = x1
  refine Wk.lload_n (k := 0) (q := 11) (by decide +kernel) rfl rfl rfl ?_
  refine Wk.ldc2 (q := 14) k_Long_316 (by decide +kernel) rfl ?_
  refine Wk.land (q := 15) (by decide +kernel) rfl ?_
  refine Wk.lload_n (k := 0) (q := 16) (by decide +kernel) rfl rfl rfl ?_
  refine Wk.iconst (n := 2) (q := 17) (by decide +kernel) rfl ?_
  refine Wk.lushr (q := 18) (by decide +kernel) rfl ?_
  refine Wk.ldc2 (q := 21) k_Long_316 (by decide +kernel) rfl ?_
  refine Wk.land (q := 22) (by decide +kernel) rfl ?_
  refine Wk.ladd (q := 23) (by decide +kernel) rfl ?_
  refine Wk.lstore_n (k := 0) (q := 24) (by decide +kernel) rfl (by decide) rfl (fun _ h => h) rfl ?_
  generalize hx2 : (x1 &&& 3689348814741910323) + ((x1.toUInt64 >>> ((nZ 2).toInt64.toUInt64 &&& Int64.toUInt64 63)).toInt64 &&& 3689348814741910323) = x2
  refine Wk.lload_n (k := 0) (q := 25) (by decide +kernel) rfl rfl rfl ?_
  refine Wk.lload_n (k := 0) (q := 26) (by decide +kernel) rfl rfl rfl ?_
  refine Wk.iconst (n := 4) (q := 27) (by decide +kernel) rfl ?_
  refine Wk.lushr (q := 28) (by decide +kernel) rfl ?_
  refine Wk.ladd (q := 29) (by decide +kernel) rfl ?_
  refine Wk.ldc2 (q := 32) k_Long_318 (by decide +kernel) rfl ?_
  refine Wk.land (q := 33) (by decide +kernel) rfl ?_
  refine Wk.lstore_n (k := 0) (q := 34) (by decide +kernel) rfl (by decide) rfl (fun _ h => h) rfl ?_
  generalize hx3 : (x2 + (x2.toUInt64 >>> ((nZ 4).toInt64.toUInt64 &&& Int64.toUInt64 63)).toInt64) &&& 1085102592571150095 = x3
  refine Wk.lload_n (k := 0) (q := 35) (by decide +kernel) rfl rfl rfl ?_
  refine Wk.lload_n (k := 0) (q := 36) (by decide +kernel) rfl rfl rfl ?_
  refine Wk.bipush (n := 8) (q := 38) (by decide +kernel) (by decide +kernel) rfl ?_
  refine Wk.lushr (q := 39) (by decide +kernel) rfl ?_
  refine Wk.ladd (q := 40) (by decide +kernel) rfl ?_
  refine Wk.lstore_n (k := 0) (q := 41) (by decide +kernel) rfl (by decide) rfl (fun _ h => h) rfl ?_
  generalize hx4 : x3 + (x3.toUInt64 >>> ((nZ 8).toInt64.toUInt64 &&& Int64.toUInt64 63)).toInt64 = x4
  refine Wk.lload_n (k := 0) (q := 42) (by decide +kernel) rfl rfl rfl ?_
  refine Wk.lload_n (k := 0) (q := 43) (by decide +kernel) rfl rfl rfl ?_
  refine Wk.bipush (n := 16) (q := 45) (by decide +kernel) (by decide +kernel) rfl ?_
  refine Wk.lushr (q := 46) (by decide +kernel) rfl ?_
  refine Wk.ladd (q := 47) (by decide +kernel) rfl ?_
  refine Wk.lstore_n (k := 0) (q := 48) (by decide +kernel) rfl (by decide) rfl (fun _ h => h) rfl ?_
  generalize hx5 : x4 + (x4.toUInt64 >>> ((nZ 16).toInt64.toUInt64 &&& Int64.toUInt64 63)).toInt64 = x5
  refine Wk.lload_n (k := 0) (q := 49) (by decide +kernel) rfl rfl rfl ?_
  refine Wk.lload_n (k := 0) (q := 50) (by decide +kernel) rfl rfl rfl ?_
  refine Wk.bipush (n := 32) (q := 52) (by decide +kernel) (by decide +kernel) rfl ?_
  refine Wk.lushr (q := 53) (by decide +kernel) rfl ?_
  refine Wk.ladd (q := 54) (by decide +kernel) rfl ?_
  refine Wk.lstore_n (k := 0) (q := 55) (by decide +kernel) rfl (by decide) rfl (fun _ h => h) rfl ?_
  generalize hx6 : x5 + (x5.toUInt64 >>> ((nZ 32).toInt64.toUInt64 &&& Int64.toUInt64 63)).toInt64 = x6
  refine Wk.lload_n (k := 0) (q := 56) (by decide +kernel) rfl rfl rfl ?_
  refine Wk.l2i (q := 57) (by decide +kernel) rfl ?_
  refine Wk.bipush (n := 127) (q := 59) (by decide +kernel) (by decide +kernel) rfl ?_
  refine Wk.iand (q := 60) (by decide +kernel) rfl ?_
  exact Wk.rI (by decide +kernel) rfl (by rw [low7]; exact un_pop hx1.symm hx2.symm hx3.symm hx4.symm hx5.symm hx6.symm)
end BL
