/-! BOTH SIDES DO THE SAME DEED: shift -/
theorem MR_nb {na k set c : Int} {R : Int → Int} (h : MR na k set c R) : ∀ a : Nat, (a : Int) ≤ na → ∀ i, 1 ≤ i → i ≤ c → (R i < a ↔ i ≤ nbit set a) := by
  obtain ⟨h0, h1, h2, h3⟩ := h
  intro a
  induction a with
  | zero =>
    intro _ i i0 i1
    have e : nbit set ((0 : Nat) : Int) = 0 := nbit_0 set
    have := (h1 i i0 i1).1.1
    rw [e]
    omega
  | succ a ih =>
    intro ha i i0 i1
    have ih := ih (by omega)
    have st := nbit_step (set := set) (a := (a : Int)) (by omega)
    rw [show ((a + 1 : Nat) : Int) = (a : Int) + 1 by omega, st]
    have hi := ih i i0 i1
    have nn := nbit_mono (set := set) (a := 0) (b := (a : Int)) (by omega) (by omega)
    rw [nbit_0] at nn
    by_cases hb : bt set a = true
    · rw [show bi (bt set a = true) = 1 from by unfold bi; rw [if_pos hb]]
      obtain ⟨j, j0, j1, j2⟩ := h3 a (by omega) (by omega) hb
      have hj := ih j j0 j1
      have ej : j = nbit set a + 1 := by
        by_cases q : j = nbit set a + 1
        · exact q
        · have hp := ih (j - 1) (by omega) (by omega)
          have hl := h2 (j - 1) j (by omega) (by omega) j1
          omega
      rcases Int.lt_trichotomy i j with q | q | q
      · have := h2 i j i0 q j1
        omega
      · rw [q]; omega
      · have := h2 j i j0 q i1
        omega
    · rw [show bi (bt set a = true) = 0 from by unfold bi; rw [if_neg hb]]
      have ne : ¬ R i = a := fun e => hb (by rw [← e]; exact (h1 i i0 i1).2)
      omega
theorem MR_at {na k set c : Int} {R : Int → Int} (h : MR na k set c R) {i : Int} (i0 : 1 ≤ i) (i1 : i ≤ c) : 1 + nbit set (R i) = i := by
  have hr := (h.2.1 i i0 i1)
  have e1 := MR_nb h (R i).toNat (by omega) i i0 i1
  have e2 := MR_nb h (R i + 1).toNat (by omega) i i0 i1
  rw [show (((R i).toNat : Nat) : Int) = R i by omega] at e1
  rw [show (((R i + 1).toNat : Nat) : Int) = R i + 1 by omega, nbit_step hr.1.1, show bi (bt set (R i) = true) = 1 from by unfold bi; rw [if_pos hr.2]] at e2
  omega
theorem sa_ne {Ia : IM} {row ch : Int → Int} {s : Int} : ∀ n : Nat, (∀ i : Int, 1 ≤ i → i ≤ n → ¬ row i = s) → sa Ia row ch n 6 s = Ia 6 s ∧ sa Ia row ch n 7 s = Ia 7 s
  | 0, _ => ⟨rfl, rfl⟩
  | n + 1, h => by
    have q := h (n + 1) (by omega) (by omega)
    obtain ⟨e1, e2⟩ := sa_ne (ch := ch) n (fun i i0 i1 => h i i0 (by omega))
    constructor
    · show iup (iup (sa Ia row ch n) 6 (row (n + 1)) _) 7 _ _ 6 s = _
      rw [iup_ne (by omega), iup_ne (by omega), e1]
    · show iup (iup (sa Ia row ch n) 6 (row (n + 1)) _) 7 (row (n + 1)) _ 7 s = _
      rw [iup_ne (by omega), iup_ne (by omega), e2]
theorem sa_at {Ia : IM} {row ch : Int → Int} : ∀ n : Nat, (∀ i j : Int, 1 ≤ i → i < j → j ≤ n → ¬ row i = row j) → ∀ i : Int, 1 ≤ i → i ≤ n → sa Ia row ch n 6 (row i) = ch i % 8 ∧ sa Ia row ch n 7 (row i) = ch i / 8
  | 0, _, i, i0, i1 => by omega
  | n + 1, h, i, i0, i1 => by
    by_cases q : i = n + 1
    · subst q
      constructor
      · show iup (iup (sa Ia row ch n) 6 (row (n + 1)) _) 7 _ _ 6 (row (n + 1)) = _
        rw [iup_ne (by omega), iup_at]
      · show iup (iup (sa Ia row ch n) 6 (row (n + 1)) _) 7 (row (n + 1)) _ 7 (row (n + 1)) = _
        rw [iup_at]
    · obtain ⟨e1, e2⟩ := sa_at (Ia := Ia) (ch := ch) n (fun i j i0 ij jn => h i j i0 ij (by omega)) i i0 (by omega)
      have ne := h i (n + 1) i0 (by omega) (by omega)
      constructor
      · show iup (iup (sa Ia row ch n) 6 (row (n + 1)) _) 7 _ _ 6 (row i) = _
        rw [iup_ne (by omega), iup_ne (by omega), e1]
      · show iup (iup (sa Ia row ch n) 6 (row (n + 1)) _) 7 (row (n + 1)) _ 7 (row i) = _
        rw [iup_ne (by omega), iup_ne (by omega), e2]
theorem sf_ne {R : IM} {set : Int} {tr : Int → Int} {b : Int} : ∀ m : Nat, (∀ a : Int, 0 ≤ a → a < m → bt set a = true → ¬ b = 55 + 4 * a + 3) → sf R set tr m 149 b = R 149 b
  | 0, _ => rfl
  | m + 1, h => by
    have ih := sf_ne (R := R) (set := set) (tr := tr) (b := b) m (fun a a0 a1 => h a a0 (by omega))
    by_cases hb : bt set m = true
    · have q := h m (by omega) (by omega) hb
      have e := sf_t (R := R) (tr := tr) (a := (m : Int)) (by omega) hb
      rw [show ((m : Int) + 1).toNat = m + 1 by omega, show ((m : Int)).toNat = m by omega] at e
      rw [e, iup_ne (by omega), ih]
    · have e := sf_f (R := R) (tr := tr) (a := (m : Int)) (by omega) hb
      rw [show ((m : Int) + 1).toNat = m + 1 by omega, show ((m : Int)).toNat = m by omega] at e
      rw [e, ih]
theorem sf_at {R : IM} {set : Int} {tr : Int → Int} : ∀ (m : Nat) (a : Int), 0 ≤ a → a < m → bt set a = true → sf R set tr m 149 (55 + 4 * a + 3) = tr (1 + nbit set a)
  | 0, a, a0, a1, _ => by omega
  | m + 1, a, a0, a1, ha => by
    by_cases q : a = m
    · subst q
      have e := sf_t (R := R) (tr := tr) (a := (m : Int)) (by omega) ha
      rw [show ((m : Int) + 1).toNat = m + 1 by omega, show ((m : Int)).toNat = m by omega] at e
      rw [e, iup_at]
    · have ih := sf_at (R := R) (set := set) (tr := tr) m a a0 (by omega) ha
      by_cases hb : bt set m = true
      · have e := sf_t (R := R) (tr := tr) (a := (m : Int)) (by omega) hb
        rw [show ((m : Int) + 1).toNat = m + 1 by omega, show ((m : Int)).toNat = m by omega] at e
        rw [e, iup_ne (by omega), ih]
      · have e := sf_f (R := R) (tr := tr) (a := (m : Int)) (by omega) hb
        rw [show ((m : Int) + 1).toNat = m + 1 by omega, show ((m : Int)).toNat = m by omega] at e
        rw [e, ih]
/-- both move the ships of the set -/
theorem P_sh {Ia R0 : IM} {k set : Int} {R row ch tr : Int → Int} {n : Nat} (h : PQ Ia R0 0) (hm : MR (Ia 1 4) k set n R) (hrow : ∀ i : Int, 1 ≤ i → i ≤ n → row i = R i) (hc : ∀ i : Int, 1 ≤ i → i ≤ n → inE (Ia 1 0) (Ia 1 1) (ch i % 8) (ch i / 8) ∧ tr i = fsp (Ia 1 0) (ch i)) : PQ (sa Ia row ch n) (sf R0 set tr (Ia 1 4).toNat) 0 := by
  obtain ⟨⟨⟨v0, v1, v2, v3, v4, v5, v6⟩, vs, va⟩, ⟨r0, r1, r2, r3, r4, r5⟩, rd, ra, rw', rp⟩ := h
  have c : ∀ c : Nat, ¬ c = 6 → ¬ c = 7 → sa Ia row ch n c = Ia c := fun c h6 h7 => sa_o Ia row ch h6 h7 n
  have w : ∀ b, (∀ a : Int, 0 ≤ a → a < 5 → ¬ b = 55 + 4 * a + 3) → sf R0 set tr (Ia 1 4).toNat 149 b = R0 149 b := fun b hb => sf_ne _ (fun a a0 a1 _ => hb a a0 (by omega))
  have inj : ∀ i j : Int, 1 ≤ i → i < j → j ≤ n → ¬ row i = row j := fun i j i0 ij jn => by
    rw [hrow i i0 (by omega), hrow j (by omega) jn]
    have := hm.2.2.1 i j i0 ij jn
    omega
  have at' := sa_at (Ia := Ia) (ch := ch) n inj
  have ne' : ∀ s, (∀ i : Int, 1 ≤ i → i ≤ n → ¬ R i = s) → sa Ia row ch n 6 s = Ia 6 s ∧ sa Ia row ch n 7 s = Ia 7 s := fun s hs => sa_ne n (fun i i0 i1 => by rw [hrow i i0 i1]; exact hs i i0 i1)
  unfold PQ CW CI0 CI1 CI2 Slot1
  rw [c 1 (by decide) (by decide), c 2 (by decide) (by decide), c 3 (by decide) (by decide), c 4 (by decide) (by decide), c 5 (by decide) (by decide)]
  refine ⟨⟨⟨v0, v1, v2, v3, v4, v5, v6⟩, vs, fun a a0 a1 => ?_⟩, ⟨by rw [w 0 (by omega)]; exact r0, by rw [w 1 (by omega)]; exact r1, by rw [w 2 (by omega)]; exact r2, by rw [w 3 (by omega)]; exact r3, by rw [w 4 (by omega)]; exact r4, by rw [w 5 (by omega)]; exact r5⟩, fun j j0 j1 => by rw [w _ (by omega)]; exact rd j j0 j1, fun s s0 s1 => ?_, fun s s0 s1 => ?_, fun a a0 a1 => ?_⟩
  · by_cases q : ∃ i : Int, (1 ≤ i ∧ i ≤ n) ∧ R i = a
    · obtain ⟨i, ⟨i0, i1⟩, e⟩ := q
      have := at' i i0 i1
      rw [hrow i i0 i1, e] at this
      rw [this.1, this.2]
      have := (hc i i0 i1).1
      unfold inE at this
      omega
    · obtain ⟨e1, e2⟩ := ne' a (fun i i0 i1 e => q ⟨i, ⟨i0, i1⟩, e⟩)
      rw [e1, e2]
      exact va a a0 a1
  · rw [w (55 + 4 * s) (by omega), w (55 + 4 * s + 1) (by omega), w (55 + 4 * s + 2) (by omega)]
    exact ra s s0 s1
  · rw [w (55 + 4 * (s + 0)) (by omega), w (55 + 4 * (s + 0) + 1) (by omega), w (55 + 4 * (s + 0) + 2) (by omega)]
    exact rw' s s0 s1
  · by_cases hb : bt set a = true
    · obtain ⟨i, i0, i1, e⟩ := hm.2.2.2 a a0 a1 hb
      have p := at' i i0 i1
      rw [hrow i i0 i1, e] at p
      have nb := MR_at hm i0 i1
      rw [e] at nb
      rw [p.1, p.2, sf_at _ a a0 (by omega) hb, nb, (hc i i0 i1).2]
      rfl
    · obtain ⟨e1, e2⟩ := ne' a (fun i i0 i1 e => hb (by rw [← e]; exact (hm.2.1 i i0 i1).2))
      rw [e1, e2, sf_ne _ (fun x x0 x1 xb => fun e => hb (by rw [show a = x by omega]; exact xb))]
      exact rp a a0 a1
theorem J_shift {I I1 I2 : IM} {k z z2 : Int} (hI : Inv I) (h : (¬ (0 ≤ k ∧ k < I 1 5) ∧ z = -1000000001 ∧ I1 = I) ∨ ((0 ≤ k ∧ k < I 1 5) ∧ ((MvNone I k ∧ z = -1000000003 ∧ FrS I1 I) ∨ ∃ J set R, FrS J I ∧ MvFound I k J set R ∧ ((¬ I 1 4 < 5 ∧ z = -1000000004 ∧ I1 = J) ∨ (I 1 4 < 5 ∧ z = nbit set 5 ∧ ∃ Ia, RemC J Ia ∧ I1 = toAnch (sa Ia (J 123) (J 124) (nbit set 5).toNat) k (J 124 0))))))
    (g : (¬ (0 ≤ k ∧ k < I1 149 5) ∧ z2 = -1000000001 ∧ I2 = I1) ∨ ((0 ≤ k ∧ k < I1 149 5) ∧ ((ZNone I1 k ∧ z2 = -1000000003 ∧ Kp I2 I1) ∨ ∃ J set R, Kp J I1 ∧ ZFound I1 k J set R ∧ ((I1 149 4 = 5 ∧ z2 = -1000000004 ∧ I2 = J) ∨ (¬ I1 149 4 = 5 ∧ z2 = nbit set 5 ∧ I2 = unw (moo (sf (remM J) set (J 153) (I1 149 4).toNat) k (J 153 0)) k))))) : z = z2 ∧ Inv I2 := by
  have hA := hI.1.1.1.2.2.2.2.1
  have hB := hI.1.1.1.2.2.2.2.2.1
  have i9 : I1 149 = I 149 := by
    rcases h with ⟨-, -, h3⟩ | ⟨-, ⟨-, -, h3⟩ | ⟨J, set, R, hJ, -, ⟨-, -, h3⟩ | ⟨-, -, Ia, hR, h3⟩⟩⟩
    · rw [h3]
    · exact h3 149 (by decide) (by decide) (by decide)
    · rw [h3]; exact hJ 149 (by decide) (by decide) (by decide)
    · rw [h3, toAnch_o (by omega), sa_o _ _ _ (by decide) (by decide), (RemC.both (Inv_frs hJ hI) hR).2]; exact hJ 149 (by decide) (by decide) (by decide)
  rw [i9, hI.1.n5, hI.1.n4, ZNone_eq i9] at g
  rcases h with ⟨h1, h2, h3⟩ | ⟨h0, h⟩
  · rcases g with ⟨g1, g2, g3⟩ | ⟨g1, -⟩
    · rw [g3, h3]; exact ⟨by rw [h2, g2], hI⟩
    · exact absurd g1 h1
  · rcases g with ⟨g1, -⟩ | ⟨g0, g⟩
    · exact absurd h0 g1
    · rcases h with ⟨hn, h2, h3⟩ | ⟨J, set, R, hJ, hm, h⟩
      · rcases g with ⟨gn, g2, g3⟩ | ⟨J2, set2, R2, hJ2, gm, -⟩
        · exact ⟨by rw [h2, g2], Inv_kp g3 (Inv_frs h3 hI)⟩
        · exact ((ZF_eq i9).mp gm.zf).none (eMn hI.1 h0.1 h0.2 hn) |>.elim
      · have zf := eMv hI.1 h0.1 h0.2 hm
        have hIJ := Inv_frs hJ hI
        rcases g with ⟨gn, g2, g3⟩ | ⟨J2, set2, R2, hJ2, gm, g⟩
        · exact (zf.none gn).elim
        · have zg := (ZF_eq i9).mp gm.zf
          have es := zf.set_uniq zg
          subst es
          obtain ⟨eR, ec⟩ := zf.uniq zg
          rcases h with ⟨h4, h2, h3⟩ | ⟨h4, h2, Ia, hR, h3⟩
          · rcases g with ⟨g4, g2, g3⟩ | ⟨g4, -⟩
            · rw [g3]
              refine ⟨by rw [h2, g2], Inv_kp hJ2 ?_⟩
              rw [h3]; exact hIJ
            · omega
          · rcases g with ⟨g4, -⟩ | ⟨g4, g2, g3⟩
            · omega
            · refine ⟨by rw [h2, g2], ?_⟩
              have nn := nbit_nn set
              have j1 : J 1 = I 1 := hJ 1 (by decide) (by decide) (by decide)
              have a1 : Ia 1 = I 1 := (hR.lo (by decide)).trans j1
              have b8 := (RemC.both hIJ hR).1
              have o : ∀ c, (c < 1 ∨ 7 < c) → I1 c = Ia c := fun c q => by rw [h3, toAnch_o (by omega), sa_o _ _ _ (by omega) (by omega)]
              have i8 : I1 148 = J 148 := by rw [o 148 (by omega), b8]
              have i9J : I1 149 = J 149 := i9.trans (hJ 149 (by decide) (by decide) (by decide)).symm
              have hP : PQ Ia (remM J2) 0 := PQ_rem hIJ hR (by rw [hJ2 148 1 (by decide) (by decide) (by decide) (by omega), i8]) (by rw [Kp.lo hJ2 (by omega), i9J])
              obtain ⟨m1, m2, m3, m4, m5, m6, m7, m8⟩ := hm
              have lg := Lea_G _ 0 _ m4
              have hQ := P_sh (ch := J 124) (tr := J2 153) (row := J 123) (R := R) (set := set) (k := k) (n := (nbit set 5).toNat) hP (by rw [a1, show (((nbit set 5).toNat : Nat) : Int) = nbit set 5 by omega]; exact m3) (fun i i0 i1 => m7 i (by omega) (by omega)) (fun i i0 i1 => ⟨by rw [a1]; exact (lg i (by omega) (by omega)).2.1.1, by rw [a1, ← ec i (by omega) (by omega)]⟩)
              have s1 : sa Ia (J 123) (J 124) (nbit set 5).toNat 1 = I 1 := by rw [sa_o _ _ _ (by decide) (by decide), a1]
              have hC := P_come (k := k) (p := J 124 0) hQ (by rw [s1]; exact h4) h0.1 (by rw [s1]; exact h0.2) (by rw [s1]; exact (lg 0 (by omega) (by omega)).2.1.1)
              rw [s1, show fsp (I 1 0) (J 124 0) = J2 153 0 from ec 0 (by omega) (by omega), a1, ← h3, ← g3] at hC
              have kk := remM_kp hJ2
              have hK : 0 ≤ I1 148 1 ∧ I1 148 1 ≤ 16 := by rw [i8]; exact hIJ.k16
              have m4 : sf (remM J2) set (J2 153) (I 1 4).toNat 149 4 = I 1 4 := by
                rw [(sf_o _ _ _ _).2 4 (by decide), kk.1, remM_lo hK (Or.inl (by decide)), i9, hI.1.n4]
              have m5 : sf (remM J2) set (J2 153) (I 1 4).toNat 149 5 = I 1 5 := by
                rw [(sf_o _ _ _ _).2 5 (by decide), kk.1, remM_lo hK (Or.inl (by decide)), i9, hI.1.n5]
              have lo : ∀ c, ¬ c = 149 → I2 c = remM J2 c := fun c q => by rw [g3, unw_o q, moo_o q, (sf_o _ _ _ _).1 c q]
              refine deed hIJ hR (I1 := I1) o (fun c q => ?_) (fun b q => ?_) (fun b b0 _ => ?_) (PQ_cur.mp (PQ_cong hC (Int.le_refl 0) (by rw [h3, toAnch_15, s1]; omega) (fun c c0 c1 => ?_) (fun b _ => rfl)))
              · rw [lo c (by omega), remM_o (by omega) (by omega), Kp.lo hJ2 (by omega)]
              · rw [lo 148 (by omega), kk.2 b q]
              · rw [g3, unw_hi (by rw [moo_5 (by rw [m4]; omega), m5]; omega) b0, moo_hi (by rw [m4]; omega) b0, sf_ne _ (fun a a0 a1 _ => by omega), kk.1]
              · rw [lo c (by omega), remM_o (by omega) (by omega), Kp.lo hJ2 (by omega)]
