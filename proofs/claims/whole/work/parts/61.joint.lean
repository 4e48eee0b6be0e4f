/-! BOTH SIDES DO THE SAME DEED: drift -/
/-- the class's part of one memory, the reference's of another -/
def mix (A B : IM) : IM := fun c => if c < 148 then A c else B c
theorem mix_lo {A B : IM} {c : Nat} (h : c < 148) : mix A B c = A c := by unfold mix; rw [if_pos h]
theorem mix_hi {A B : IM} {c : Nat} (h : ¬ c < 148) : mix A B c = B c := by unfold mix; rw [if_neg h]
theorem stM_o {B : IM} {c : Nat} (h8 : ¬ c = 148) (h9 : ¬ c = 149) : stM B c = B c := by
  unfold stM
  rw [iup_other h9, iup_other h8, iup_other h8, remM_o h8 h9]
theorem stM_8 {B : IM} {b : Int} (h : ¬ b = 3) : stM B 148 b = remM B 148 b := by
  unfold stM
  rw [iup_other (by decide), iup_ne (by omega), iup_ne (by omega)]
theorem stM_3 (B : IM) : stM B 148 3 = nextSeed (nextSeed (B 148 3)) := by
  unfold stM
  rw [iup_other (by decide), iup_at]
theorem stM_9 {B : IM} {b : Int} (h : ¬ b = 6 + nextSeed (B 148 3) / 65536 % (B 149 0 * B 149 1)) : stM B 149 b = remM B 149 b := by
  unfold stM
  rw [iup_ne (by omega), iup_other (by decide), iup_other (by decide)]
theorem stM_c (B : IM) : stM B 149 (6 + nextSeed (B 148 3) / 65536 % (B 149 0 * B 149 1)) = nextSeed (nextSeed (B 148 3)) / 65536 % 10 := by
  unfold stM
  rw [iup_at]
theorem Inv_st {A A2 B : IM} (h : Inv (mix A B)) (hs : stC A A2) : Inv (mix A2 (stM B)) := by
  obtain ⟨Ia, hR, e⟩ := hs
  have l : ∀ c, c < 148 → mix A B c = A c := fun c hc => mix_lo hc
  have g : ∀ c, ¬ c < 148 → mix A B c = B c := fun c hc => mix_hi hc
  have l2 : ∀ c, c < 148 → mix A2 (stM B) c = A2 c := fun c hc => mix_lo hc
  have g2 : ∀ c, ¬ c < 148 → mix A2 (stM B) c = stM B c := fun c hc => mix_hi hc
  have n8 : 0 ≤ A 8 1 ∧ A 8 1 < 16 := by have := h.2.1.1; rw [l 8 (by decide)] at this; exact this
  have k16 := h.k16
  rw [g 148 (by decide)] at k16
  have sd := h.2.2.2.1
  unfold Sd at sd
  rw [l 0 (by decide), g 148 (by decide)] at sd
  have hw : A 1 0 = B 149 0 := by have := h.1.w0; rw [l 1 (by decide), g 149 (by decide)] at this; exact this.symm
  have hh : A 1 1 = B 149 1 := by have := h.1.h1; rw [l 1 (by decide), g 149 (by decide)] at this; exact this.symm
  have hc0 := h.1.1.1
  unfold CI0 at hc0
  rw [l 1 (by decide), l 2 (by decide)] at hc0
  obtain ⟨v0, v1, v2, v3, v4, v5, v6⟩ := hc0
  have h49 := WH49 (W := A 1 0) (H := A 1 1) (by omega) (by omega)
  have hpos : 0 < A 1 0 * A 1 1 := Int.mul_pos (by omega) (by omega)
  have p0 := Int.emod_nonneg (nextSeed (A 0 5) / 65536) (b := A 1 0 * A 1 1) (by omega)
  have p1 := Int.emod_lt_of_pos (nextSeed (A 0 5) / 65536) hpos
  have ep : nextSeed (B 148 3) / 65536 % (B 149 0 * B 149 1) = nextSeed (A 0 5) / 65536 % (A 1 0 * A 1 1) := by rw [sd.1, hw, hh]
  have aA : ∀ c, ¬ c = 0 → ¬ c = 2 → A2 c = Ia c := fun c q0 q2 => by rw [e, iup_other q2, iup_other q0, iup_other q0]
  have low : ∀ c, 1 ≤ c → c ≤ 7 → ¬ c = 2 → mix A2 (stM B) c = mix A B c := fun c c0 c1 c2 => by
    rw [l2 c (by omega), l c (by omega), aA c (by omega) c2]
    exact hR.lo c1
  have hiA : ∀ c, 122 ≤ c → c < 148 → mix A2 (stM B) c = mix A B c := fun c c0 c1 => by
    rw [l2 c c1, l c c1, aA c (by omega) (by omega)]
    exact hR.hi n8 c0
  have w9 : ∀ b, (b < 90 ∨ 1530 ≤ b) → ¬ (6 ≤ b ∧ b < 55) → mix A2 (stM B) 149 b = mix A B 149 b := fun b b0 b1 => by
    rw [g2 149 (by decide), g 149 (by decide), stM_9 (by rw [ep]; omega), remM_lo k16 b0]
  have hd : ∀ k, 0 ≤ k → k < 49 → (0 ≤ mix A2 (stM B) 2 k ∧ mix A2 (stM B) 2 k ≤ 9) ∧ mix A2 (stM B) 2 k = mix A2 (stM B) 149 (6 + k) := fun k k0 k1 => by
    rw [l2 2 (by decide), g2 149 (by decide)]
    by_cases q : k = nextSeed (A 0 5) / 65536 % (A 1 0 * A 1 1)
    · have e1 : A2 2 k = nextSeed (nextSeed (A 0 5)) / 65536 % 10 := by rw [e, q, iup_at]
      have e2 : stM B 149 (6 + k) = nextSeed (nextSeed (B 148 3)) / 65536 % 10 := by rw [q, ← ep]; exact stM_c B
      rw [e1, e2, sd.1]
      exact ⟨by omega, rfl⟩
    · have e1 : A2 2 k = A 2 k := by rw [e, iup_ne (fun y => q y.2), iup_other (by decide), iup_other (by decide), hR.lo (by decide)]
      have e2 : stM B 149 (6 + k) = B 149 (6 + k) := by rw [stM_9 (by rw [ep]; omega), remM_lo k16 (Or.inl (by omega))]
      have := h.1.2.2.1 k k0 k1
      rw [l 2 (by decide), g 149 (by decide)] at this
      rw [e1, e2]
      exact ⟨v6 k k0 k1, this⟩
  refine ⟨Cur_sc h.1 (fun c c0 c1 => low c (by omega) c1 (by omega)) (fun b _ _ => by rw [low 1 (by omega) (by omega) (by omega)]) (fun b b0 _ _ b3 => w9 b (Or.inl b0) b3) ?_ ?_ ?_ ?_ hd, ?_, ?_, ?_, ?_⟩
  · rw [low 1 (by omega) (by omega) (by omega), w9 2 (by omega) (by omega)]; exact h.1.t2.symm
  · rw [low 1 (by omega) (by omega) (by omega), w9 3 (by omega) (by omega)]; exact h.1.f3.symm
  · rw [low 1 (by omega) (by omega) (by omega)]; exact h.1.1.1.2.2.1
  · rw [low 1 (by omega) (by omega) (by omega)]; exact h.1.1.1.2.2.2.1
  · refine Hst_rem h.2.1 h.1 ?_ ?_ ?_ (fun k k0 k1 => ?_) (fun k k0 k1 => ?_) (fun j k j0 j1 k0 k1 => ?_) (fun c c0 c1 c2 => ?_) (fun b b0 b1 => ?_)
    · rw [l2 8 (by decide), l 8 (by decide), aA 8 (by decide) (by decide)]; exact hR.1
    · rw [l2 8 (by decide), l 8 (by decide), aA 8 (by decide) (by decide)]; exact hR.2.1
    · rw [g2 148 (by decide), g 148 (by decide), stM_8 (by decide), remM_k]
    · rw [l 8 (by decide), l 1 (by decide), l2 _ (by omega), aA _ (by omega) (by omega)]; exact hR.2.2.1.1 k k0 k1
    · rw [l 8 (by decide), l 2 (by decide), l2 _ (by omega), aA _ (by omega) (by omega)]; exact hR.2.2.1.2.1 k k0 k1
    · rw [l 8 (by decide), l _ (by omega), l2 _ (by omega), aA _ (by omega) (by omega)]; exact hR.2.2.1.2.2 j k j0 j1 k0 k1
    · rw [l 8 (by decide)] at c2
      rw [l c (by omega), l2 c (by omega), aA c (by omega) (by omega)]; exact hR.2.2.2 c (by omega) c2
    · rw [g2 149 (by decide), g 148 (by decide), g 149 (by decide), stM_9 (by rw [ep]; omega)]
      simp only [remM, if_true]
  · refine Img_eq (fun c c0 c1 => hiA c (by omega) c1) ?_ (fun b b0 _ => w9 b (Or.inr b0) (by omega)) ?_ h.2.2.1
    · rw [g2 148 (by decide), g 148 (by decide), stM_8 (by decide), remM_8 (by decide)]
    · rw [g2 150 (by decide), g 150 (by decide), stM_o (by decide) (by decide)]
  · unfold Sd
    rw [l2 0 (by decide), g2 148 (by decide), stM_3]
    refine ⟨?_, nextSeed_range _⟩
    rw [e, iup_other (by decide), iup_at, sd.1]
  · refine Bk_eq (fun c c0 c1 => hiA c (by omega) (by omega)) ?_ ?_ ?_ h.2.2.2.2
    · rw [g2 148 (by decide), g 148 (by decide), stM_8 (by decide), remM_8 (by decide)]
    · rw [g2 151 (by decide), g 151 (by decide), stM_o (by decide) (by decide)]
    · rw [g2 152 (by decide), g 152 (by decide), stM_o (by decide) (by decide)]
theorem dC_hi {I : IM} (hr : Rdy I) : ∀ (n : Nat) (I2 : IM), dC n I I2 → Rdy I2 ∧ ∀ c, 148 ≤ c → I2 c = I c
  | 0, I2, h => by
    have e : I2 = I := h
    rw [e]
    exact ⟨hr, fun _ _ => rfl⟩
  | n + 1, I2, h => by
    obtain ⟨J, h1, h2⟩ := h
    obtain ⟨r, o⟩ := dC_hi hr n J h1
    refine ⟨Rdy_st r h2, fun c hc => ?_⟩
    obtain ⟨Ia, hR, e⟩ := h2
    rw [e, iup_other (by omega), iup_other (by omega), iup_other (by omega), hR.hi r.2.1 (by omega)]
    exact o c hc
theorem dM_lo {I : IM} {c : Nat} (h : c < 148) : ∀ n : Nat, dM n I c = I c
  | 0 => rfl
  | n + 1 => by
    show stM (dM n I) c = _
    rw [stM_o (by omega) (by omega)]
    exact dM_lo h n
theorem Inv_dr {I I1 : IM} (hI : Inv I) (hB : ∀ c, 148 ≤ c → I1 c = I c) : ∀ (n : Nat) (A : IM), dC n I A → Inv (mix A (dM n I1))
  | 0, A, h => by
    have e : A = I := h
    have e2 : mix A (dM 0 I1) = I := by
      funext c
      by_cases q : c < 148
      · rw [mix_lo q, e]
      · rw [mix_hi q]; exact hB c (by omega)
    rw [e2]
    exact hI
  | n + 1, A, h => by
    obtain ⟨J, h1, h2⟩ := h
    exact Inv_st (Inv_dr hI hB n J h1) h2
theorem cDG_eq {I I2 : IM} (h : ∀ c, 1 ≤ c → c ≤ 7 → I2 c = I c) (F : Int) : cDG I2 F = cDG I F := by
  unfold cDG cDP cML cCL
  simp only [h 1 (by decide) (by decide), h 2 (by decide) (by decide), h 3 (by decide) (by decide), h 4 (by decide) (by decide), h 5 (by decide) (by decide), h 6 (by decide) (by decide), h 7 (by decide) (by decide)]
theorem J_drift {I I1 I2 : IM} {n z z2 : Int} (hI : Inv I) (h : ((n < 1 ∨ 12 < n) ∧ z = -1000000002 ∧ I1 = I) ∨ (¬ (n < 1 ∨ 12 < n) ∧ dC n.toNat I I1 ∧ z = cDG I1 (I1 1 3)))
    (g : (¬ (1 ≤ n ∧ n ≤ 12) ∧ z2 = -1000000002 ∧ I2 = I1) ∨ ((1 ≤ n ∧ n ≤ 12) ∧ I2 = dM n.toNat I1 ∧ z2 = mDG I2 (I2 149 3))) : z = z2 ∧ Inv I2 := by
  rcases h with ⟨h1, h2, h3⟩ | ⟨h1, h2, h3⟩
  · rcases g with ⟨g1, g2, g3⟩ | ⟨g1, -⟩
    · rw [g3, h3]; exact ⟨by rw [h2, g2], hI⟩
    · omega
  · rcases g with ⟨g1, -⟩ | ⟨g1, g2, g3⟩
    · omega
    · have hr : Rdy I := ⟨hI.1.1, hI.2.1.1, hI.2.1.2.1⟩
      have ho := (dC_hi hr _ _ h2).2
      have hv := Inv_dr hI ho _ _ h2
      have e : mix I1 (dM n.toNat I1) = I2 := by
        funext c
        by_cases q : c < 148
        · rw [mix_lo q, g2, dM_lo q]
        · rw [mix_hi q, g2]
      rw [e] at hv
      have lo : ∀ c, c < 148 → I2 c = I1 c := fun c hc => by rw [g2, dM_lo hc]
      refine ⟨?_, hv⟩
      rw [h3, g3, ← eDG hv.1, hv.1.f3, lo 1 (by decide)]
      exact (cDG_eq (fun c _ c1 => lo c (by omega)) _).symm
