/-! BOTH SIDES: how the class's Harbour and a row of the reference speak of the same -/
theorem divmod {x y W : Int} (h0 : 0 ≤ x) (h1 : x < W) : (y * W + x) % W = x ∧ (y * W + x) / W = y := by
  rw [Int.add_comm, Int.add_mul_emod_self_right, Int.add_mul_ediv_right _ _ (by omega), Int.emod_eq_of_lt h0 h1, Int.ediv_eq_zero_of_lt h0 h1]
  omega
def HRc (I : IM) : Prop := (I 1 0 = I 149 0 ∧ I 1 1 = I 149 1 ∧ I 1 2 = I 149 2 ∧ I 1 3 = I 149 3 ∧ I 1 4 = I 149 4 ∧ I 1 5 = I 149 5) ∧ (∀ k, 0 ≤ k → k < 49 → I 2 k = I 149 (6 + k)) ∧ (∀ s, Slot1 I s → I 3 s = I 149 (55 + 4 * s) ∧ I 4 s = I 149 (55 + 4 * s + 1) ∧ I 5 s = I 149 (55 + 4 * s + 2)) ∧ ∀ a, 0 ≤ a → a < I 1 4 → I 7 a * I 1 0 + I 6 a = I 149 (55 + 4 * a + 3)
def Cur (I : IM) : Prop := CW I ∧ HRc I
theorem Cur.wh {I : IM} (h : Cur I) : 0 ≤ I 1 0 * I 1 1 ∧ I 1 0 * I 1 1 ≤ 49 := WH49 (by have := h.1.1.1; omega) (by have := h.1.1.2.1; omega)
theorem Cur.mw {I : IM} (h : Cur I) : MW I := by
  obtain ⟨⟨⟨c0, c1, c2, c3, c4, c5, c6⟩, hS, hP⟩, ⟨e0, e1, e2, e3, e4, e5⟩, hd, hs, ha⟩ := h
  rw [e0] at c0; rw [e1] at c1; rw [e2] at c2; rw [e3] at c3; rw [e4] at c4; rw [e5] at c5
  refine ⟨⟨c0, c1, c2, by omega, c4, c5, fun k k0 k1 => ?_⟩, fun a a0 a1 => ⟨?_, ?_⟩, fun k k0 k1 => ?_⟩
  · rw [← hd k k0 k1]; exact c6 k k0 k1
  · have sl : Slot1 I a := Or.inl ⟨a0, by omega⟩
    obtain ⟨q1, q2, q3⟩ := hs a sl
    have r := hS a sl
    unfold MP
    rw [← q1, ← q2, ← q3]
    omega
  · obtain ⟨q1, q2⟩ := hP a a0 (by omega)
    have := cellB (W := I 1 0) (H := I 1 1) q1 q2
    unfold mC
    rw [← ha a a0 (by omega), ← e0, ← e1]
    omega
  · have sl : Slot1 I (5 + k) := Or.inr ⟨by omega, by omega⟩
    obtain ⟨q1, q2, q3⟩ := hs (5 + k) sl
    have r := hS (5 + k) sl
    unfold MP
    rw [show 75 + 4 * k = 55 + 4 * (5 + k) by omega, ← q1, ← q2, ← q3]
    omega
section BOTH
variable {I : IM}
theorem eML (h : Cur I) {F s c : Int} (hs : Slot1 I s) : mML I F (55 + 4 * s) c ↔ ML (I 1 0) (I 1 1) (I 1 2) (I 2) F (I 3 s) (I 4 s) (I 5 s) (c % I 1 0) (c / I 1 0) := by
  have hw := h.wh
  obtain ⟨hC, ⟨e0, e1, e2, e3, e4, e5⟩, hd, hq, ha⟩ := h
  obtain ⟨q1, q2, q3⟩ := hq s hs
  unfold mML
  rw [← e0, ← e1, ← e2, ← q1, ← q2, ← q3]
  exact ML_cong (fun k k0 k1 => (hd k k0 (by omega)).symm)
theorem eCL (h : Cur I) {F s c t e : Int} (hs : Slot1 I s) (ht : Slot1 I t) : mCL I F (55 + 4 * s) c (55 + 4 * t) e ↔ CL F (I 4 s) (I 5 s) (c % I 1 0) (c / I 1 0) (I 4 t) (I 5 t) (e % I 1 0) (e / I 1 0) := by
  obtain ⟨hC, ⟨e0, e1, e2, e3, e4, e5⟩, hd, hq, ha⟩ := h
  obtain ⟨q1, q2, q3⟩ := hq s hs
  obtain ⟨r1, r2, r3⟩ := hq t ht
  unfold mCL
  rw [← e0, ← q2, ← q3, ← r2, ← r3]
theorem eAn (h : Cur I) {a : Int} (h0 : 0 ≤ a) (h1 : a < I 1 4) : I 149 (55 + 4 * a + 3) % I 1 0 = I 6 a ∧ I 149 (55 + 4 * a + 3) / I 1 0 = I 7 a := by
  rw [← h.2.2.2.2 a h0 h1]
  have := (h.1.2.2 a h0 h1).1
  exact divmod this.1 this.2
theorem eMLa (h : Cur I) {F a : Int} (h0 : 0 ≤ a) (h1 : a < I 1 4) : mML I F (55 + 4 * a) (I 149 (55 + 4 * a + 3)) ↔ cML I F a := by
  rw [eML h (Or.inl ⟨h0, h1⟩), (eAn h h0 h1).1, (eAn h h0 h1).2]
theorem eCLa (h : Cur I) {F a b : Int} (h0 : 0 ≤ a) (h1 : a < I 1 4) (g0 : 0 ≤ b) (g1 : b < I 1 4) : mCa I F a b ↔ cCL I F a b := by
  unfold mCa
  rw [eCL h (Or.inl ⟨h0, h1⟩) (Or.inl ⟨g0, g1⟩), (eAn h h0 h1).1, (eAn h h0 h1).2, (eAn h g0 g1).1, (eAn h g0 g1).2]
theorem Cur.n4 (h : Cur I) : I 149 4 = I 1 4 := h.2.1.2.2.2.2.1.symm
theorem Cur.n5 (h : Cur I) : I 149 5 = I 1 5 := h.2.1.2.2.2.2.2.symm
theorem Cur.f3 (h : Cur I) : I 149 3 = I 1 3 := h.2.1.2.2.2.1.symm
theorem Cur.w0 (h : Cur I) : I 149 0 = I 1 0 := h.2.1.1.symm
theorem Cur.h1 (h : Cur I) : I 149 1 = I 1 1 := h.2.1.2.1.symm
theorem Cur.t2 (h : Cur I) : I 149 2 = I 1 2 := h.2.1.2.2.1.symm
theorem eDG (h : Cur I) (F : Int) : cDG I F = mDG I F := by
  unfold cDG mDG
  rw [h.n4]
  refine so_cong fun a a0 a1 => ?_
  have a2 : a < I 1 4 := by omega
  unfold cDP mDP
  rw [eMLa h a0 a2, h.n4]
  have e : (∃ b, (0 ≤ b ∧ b < I 1 4) ∧ ¬ b = a ∧ cCL I F a b) ↔ ∃ b, (0 ≤ b ∧ b < I 1 4) ∧ ¬ a = b ∧ mCa I F a b := by
    constructor
    · rintro ⟨b, b0, b1, b2⟩
      exact ⟨b, b0, fun z => b1 z.symm, (eCLa h a0 a2 b0.1 b0.2).mpr b2⟩
    · rintro ⟨b, b0, b1, b2⟩
      exact ⟨b, b0, fun z => b1 z.symm, (eCLa h a0 a2 b0.1 b0.2).mp b2⟩
  rw [e]
theorem eCs (h : Cur I) {a : Int} (a0 : 0 ≤ a) (a2 : a < I 1 4) : so (fun b => ¬ b = a ∧ cCL I (I 1 3) a b) (I 1 4).toNat = so (fun b => ¬ a = b ∧ mCa I (I 149 3) a b) (I 149 4).toNat := by
  rw [h.n4, h.f3]
  refine so_cong fun b b0 b1 => ?_
  rw [eCLa h a0 a2 b0 (by omega)]
  exact ⟨fun z => ⟨fun y => z.1 y.symm, z.2⟩, fun z => ⟨fun y => z.1 y.symm, z.2⟩⟩
theorem eTh (h : Cur I) : so (fun w => ¬ orb (I 1 3) w = I 1 3 ∧ ¬ cDG I (orb (I 1 3) w) = cDG I (I 1 3)) 8 = so (fun w => ¬ mDG I (orb (I 149 3) w) = mDG I (I 149 3)) 8 := by
  rw [h.f3]
  refine so_cong fun w _ _ => ?_
  rw [eDG h, eDG h]
  constructor
  · exact fun z => z.2
  · exact fun z => ⟨fun y => z (by rw [y]), z⟩
theorem eSW (h : Cur I) {a x y : Int} (a0 : 0 ≤ a) (a2 : a < I 1 4) : mSW I (55 + 4 * a) (I 149 (55 + 4 * a + 3)) x y ↔ cSW I (I 1 3) a x y := by
  obtain ⟨q1, q2, q3⟩ := h.2.2.2.1 a (Or.inl ⟨a0, a2⟩)
  unfold mSW cSW
  rw [h.w0, (eAn h a0 a2).1, (eAn h a0 a2).2, h.f3, ← q2, ← q3]
theorem eLO (h : Cur I) {a w x y : Int} (a0 : 0 ≤ a) (a2 : a < I 1 4) : mLO I (55 + 4 * a) (I 149 (55 + 4 * a + 3)) w x y ↔ cLO I a w x y := by
  obtain ⟨q1, q2, q3⟩ := h.2.2.2.1 a (Or.inl ⟨a0, a2⟩)
  unfold mLO cLO
  rw [h.w0, (eAn h a0 a2).1, (eAn h a0 a2).2, ← q2, ← q3]
theorem eWat (h : Cur I) {x y : Int} : mwat I x y = cwat I x y := by
  have hw := h.wh
  unfold mwat cwat
  rw [h.w0, h.h1, h.t2]
  exact wat_cong (fun k k0 k1 => (h.2.2.1 k k0 (by omega)).symm)
/-! spots and cells -/
def fsp (W s : Int) : Int := (s / 8) * W + s % 8
theorem fsp_dm {W s : Int} (h : s % 8 < W) : fsp W s % W = s % 8 ∧ fsp W s / W = s / 8 := divmod (by omega) h
theorem fsp_lt {W s t : Int} (hs : s % 8 < W) (ht : t % 8 < W) : fsp W s < fsp W t ↔ s < t := by
  unfold fsp
  have hW : 0 ≤ W := by omega
  have m : ∀ a b : Int, a < b → a * W + W ≤ b * W := fun a b hab => by
    have h1 : (a + 1) * W ≤ b * W := Int.mul_le_mul_of_nonneg_right (by omega) hW
    rw [Int.add_mul, Int.one_mul] at h1
    exact h1
  rcases Int.lt_trichotomy (s / 8) (t / 8) with q | q | q
  · have := m _ _ q
    constructor <;> intro _ <;> omega
  · rw [q]
    constructor <;> intro _ <;> omega
  · have := m _ _ q
    constructor <;> intro _ <;> omega
theorem eFr (h : Cur I) {s mv c : Int} (hs : Slot1 I s) : (mC I c ∧ mFr I (55 + 4 * s) mv c) ↔ ∃ t, ((0 ≤ t ∧ t < 64) ∧ cLeft I s mv (t % 8) (t / 8)) ∧ c = fsp (I 1 0) t := by
  have hw := h.wh
  obtain ⟨hW, hH, -⟩ := h.1.1
  have core : ∀ c x y, c % I 1 0 = x → c / I 1 0 = y → (mFr I (55 + 4 * s) mv c ↔ ML (I 1 0) (I 1 1) (I 1 2) (I 2) (I 1 3) (I 3 s) (I 4 s) (I 5 s) x y ∧ ∀ a, 0 ≤ a → a < I 1 4 → bt mv a = false → ¬ CL (I 1 3) (I 4 a) (I 5 a) (I 6 a) (I 7 a) (I 4 s) (I 5 s) x y) := by
    intro c x y hx hy
    unfold mFr
    rw [eML h hs, h.f3, h.n4, hx, hy]
    refine and_congr Iff.rfl ?_
    constructor
    · intro q a a0 a1 hb
      have q1 := (q a a0 a1).resolve_left (by rw [hb]; decide)
      rw [eCL h hs (Or.inl ⟨a0, a1⟩), (eAn h a0 a1).1, (eAn h a0 a1).2, hx, hy, cl_symm] at q1
      exact q1
    · intro q a a0 a1
      cases hb : bt mv a with
      | true => exact Or.inl rfl
      | false =>
        right
        rw [eCL h hs (Or.inl ⟨a0, a1⟩), (eAn h a0 a1).1, (eAn h a0 a1).2, hx, hy, cl_symm]
        exact q a a0 a1 hb
  constructor
  · rintro ⟨⟨c0, c1⟩, hf⟩
    rw [h.w0, h.h1] at c1
    obtain ⟨hx, hy⟩ := mcoord hW.1 c0 c1
    have e1 : (c / I 1 0 * 8 + c % I 1 0) % 8 = c % I 1 0 := by omega
    have e2 : (c / I 1 0 * 8 + c % I 1 0) / 8 = c / I 1 0 := by omega
    refine ⟨c / I 1 0 * 8 + c % I 1 0, ⟨by omega, ?_⟩, ?_⟩
    · have q := (core c _ _ rfl rfl).mp hf
      rw [e1, e2]
      exact ⟨⟨⟨hx.1, hx.2, hy.1, hy.2⟩, q.1⟩, q.2⟩
    · unfold fsp
      rw [e1, e2]
      have := Int.emod_add_mul_ediv c (I 1 0)
      rw [Int.mul_comm] at this
      omega
  · rintro ⟨t, ⟨t0, ⟨⟨hi, hm⟩, hcl⟩⟩, rfl⟩
    have hd := fsp_dm hi.2.1
    refine ⟨?_, (core _ _ _ hd.1 hd.2).mpr ⟨hm, hcl⟩⟩
    have := cellB (W := I 1 0) (H := I 1 1) ⟨hi.1, hi.2.1⟩ ⟨hi.2.2.1, hi.2.2.2⟩
    unfold mC
    rw [h.w0, h.h1]
    exact ⟨this.1, this.2.1⟩
theorem eG (h : Cur I) {set N : Int} {R : Int → Int} (hR : ∀ i, 0 ≤ i → i < N → Slot1 I (R i)) : ∀ i c, 0 ≤ i → i < N → (zG I set R i c ↔ ∃ t, mG I set R i t ∧ c = fsp (I 1 0) t) := fun i c i0 i1 => eFr h (hR i i0 i1)
theorem eK (h : Cur I) {set N : Int} {R : Int → Int} (hR : ∀ i, 0 ≤ i → i < N → Slot1 I (R i)) : ∀ i s j t, 0 ≤ i → i < N → 0 ≤ j → j < N → mG I set R i s → mG I set R j t → (zK I R i (fsp (I 1 0) s) j (fsp (I 1 0) t) ↔ mK I R i s j t) := fun i s j t i0 i1 j0 j1 hs ht => by
  have d1 := fsp_dm (W := I 1 0) (s := s) hs.2.1.1.2.1
  have d2 := fsp_dm (W := I 1 0) (s := t) ht.2.1.1.2.1
  unfold zK mK
  rw [eCL h (hR i i0 i1) (hR j j0 j1), d1.1, d1.2, d2.1, d2.2, h.f3]
theorem eLt (_ : Cur I) {set : Int} {R : Int → Int} : ∀ i s t : Int, mG I set R i s → mG I set R i t → (fsp (I 1 0) s < fsp (I 1 0) t ↔ s < t) := fun _ _ _ hs ht => fsp_lt hs.2.1.1.2.1 ht.2.1.1.2.1
theorem eEx (h : Cur I) {set : Int} {R : Int → Int} {n : Nat} (hR : ∀ i : Int, 0 ≤ i → i < n → Slot1 I (R i)) (c c2 : Int → Int) : Exr (mG I set R) (mK I R) n 0 c ↔ Exr (zG I set R) (zK I R) n 0 c2 :=
  Exr_map (N := n) (eG h hR) (eK h hR) n 0 c c2 (by omega) (by omega) (fun j j0 j1 => by omega)
theorem eLea (h : Cur I) {set : Int} {R : Int → Int} {n : Nat} (hR : ∀ i : Int, 0 ≤ i → i < n → Slot1 I (R i)) {c c2 : Int → Int} (h1 : Lea (mG I set R) (mK I R) n 0 c) (h2 : Lea (zG I set R) (zK I R) n 0 c2) : ∀ j : Int, 0 ≤ j → j < n → c2 j = fsp (I 1 0) (c j) := fun j j0 j1 =>
  Lea_uniq n 0 c2 (fun j => fsp (I 1 0) (c j)) (by omega) (fun j j0 j1 => by omega) h2 (Lea_map (N := n) (fun i s t _ _ hs ht => eLt h i s t hs ht) (eG h hR) (eK h hR) n 0 c _ (by omega) (by omega) (fun j j0 j1 => by omega) (fun _ _ _ => rfl) h1) j j0 (by omega)
theorem bt_nil (a : Int) : bt 0 a = false := by unfold bt; simp
theorem ePl {k x y : Int} : cPlace I k x y ↔ cLeft I (5 + k) 0 x y :=
  ⟨fun q => ⟨q.1, fun a a0 a1 _ => q.2 a a0 a1⟩, fun q => ⟨q.1, fun a a0 a1 => q.2 a a0 a1 (bt_nil a)⟩⟩
theorem aG_mG : aG I = mG I 0 (fun i => 5 + i) := by
  funext k s
  unfold aG mG
  rw [ePl]
theorem aK_mK : aK I = mK I (fun i => 5 + i) := rfl
/-! counts over spots and over cells -/
theorem ct_zero {P : Int → Prop} : ∀ {n : Nat}, (∀ k : Int, 0 ≤ k → k < n → ¬ P k) → ct P n = 0
  | 0, _ => rfl
  | n + 1, h => by
    show ct P n + bi (P n) = 0
    rw [ct_zero (n := n) (fun k k0 k1 => h k k0 (by omega)), bi_f (h n (by omega) (by omega))]
    rfl
theorem sm_zero {f : Int → Int} : ∀ {n : Nat}, (∀ k : Int, 0 ≤ k → k < n → f k = 0) → sm f n = 0
  | 0, _ => rfl
  | n + 1, h => by
    show sm f n + f n = 0
    rw [sm_zero (n := n) (fun k k0 k1 => h k k0 (by omega)), h n (by omega) (by omega)]
    rfl
theorem sm_split (f : Int → Int) (m : Nat) : ∀ n : Nat, sm f (m + n) = sm f m + sm (fun k => f (k + m)) n
  | 0 => by simp [sm]
  | n + 1 => by
    rw [show m + (n + 1) = (m + n) + 1 from rfl]
    simp only [sm]
    rw [sm_split f m n, show ((m + n : Nat) : Int) = (n : Int) + m by omega]
    omega
theorem ct_grid (W : Nat) (hW : 0 < W) (Q : Int → Int → Prop) : ∀ H : Nat, ct (fun c => Q (c % W) (c / W)) (W * H) = sm (fun y => ct (fun x => Q x y) W) H
  | 0 => rfl
  | H + 1 => by
    rw [Nat.mul_succ, ct_split, ct_grid W hW Q H]
    show _ + _ = sm _ H + ct (fun x => Q x (H : Int)) W
    congr 1
    refine ct_cong fun k k0 k1 => ?_
    have e : k + ((W * H : Nat) : Int) = (H : Int) * W + k := by rw [Int.natCast_mul, Int.mul_comm]; omega
    have d := divmod (y := (H : Int)) k0 k1
    rw [e, d.1, d.2]
theorem ct_both {W H : Int} (hW : 2 ≤ W ∧ W ≤ 7) (hH : 2 ≤ H ∧ H ≤ 7) {P : Int → Int → Prop} (hP : ∀ x y, P x y → inE W H x y) : ct (fun s => P (s % 8) (s / 8)) 64 = ct (fun c => P (c % W) (c / W)) (W * H).toNat := by
  have g8 := ct_grid 8 (by decide) P 8
  have gw := ct_grid W.toNat (by omega) P H.toNat
  have eW : ((W.toNat : Nat) : Int) = W := Int.toNat_of_nonneg (by omega)
  have eWH : (W * H).toNat = W.toNat * H.toNat := Int.toNat_mul (by omega) (by omega)
  rw [eW] at gw
  rw [eWH, gw]
  rw [show (8 * 8 : Nat) = 64 from rfl] at g8
  rw [show ((8 : Nat) : Int) = 8 from rfl] at g8
  rw [g8]
  have row : ∀ y, ct (fun x => P x y) 8 = ct (fun x => P x y) W.toNat := by
    intro y
    rw [show (8 : Nat) = W.toNat + (8 - W.toNat) by omega, ct_split, ct_zero (n := 8 - W.toNat)]
    · omega
    · intro k k0 k1 hp
      have := (hP _ _ hp).2.1
      omega
  rw [show (8 : Nat) = H.toNat + (8 - H.toNat) by omega, sm_split, sm_zero (n := 8 - H.toNat)]
  · rw [Int.add_zero]
    rw [show H.toNat + (8 - H.toNat) = 8 by omega]
    exact sm_cong fun y _ _ => row y
  · intro k k0 k1
    refine ct_zero fun x _ _ hp => ?_
    have := (hP _ _ hp).2.2.2
    omega
theorem LB_ct {u : Int64} {P : Int → Int → Prop} (h : LB u P) : ct (fun s => bl u s = true) 64 = ct (fun s => P (s % 8) (s / 8)) 64 := ct_cong fun s s0 s1 => h s s0 (by omega)
end BOTH
