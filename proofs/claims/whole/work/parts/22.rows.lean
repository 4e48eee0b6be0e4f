/-! ROWS OF CELLS: candidates G i s, clashes K i s j t; the least row -/
def cset (c : Int → Int) (i s : Int) : Int → Int := fun j => if j = i then s else c j
theorem cset_eq (c : Int → Int) (i s : Int) : cset c i s i = s := by simp [cset]
theorem cset_ne {c : Int → Int} {i s j : Int} (h : ¬ j = i) : cset c i s j = c j := by simp [cset, h]
section ROWS
variable (G : Int → Int → Prop) (K : Int → Int → Int → Int → Prop)
def OKx (c : Int → Int) (i s : Int) : Prop := G i s ∧ ∀ j, 0 ≤ j → j < i → ¬ K j (c j) i s
def Exr : Nat → Int → (Int → Int) → Prop
  | 0, _, _ => True
  | n + 1, i, c => ∃ s, OKx G K c i s ∧ Exr n (i + 1) (cset c i s)
def Lea : Nat → Int → (Int → Int) → Prop
  | 0, _, _ => True
  | n + 1, i, c => (OKx G K c i (c i) ∧ ∀ s, s < c i → OKx G K c i s → ¬ Exr G K n (i + 1) (cset c i s)) ∧ Lea n (i + 1) c
end ROWS
theorem OKx_cong {G G2 : Int → Int → Prop} {K K2 : Int → Int → Int → Int → Prop} {c c2 : Int → Int} {i s : Int} (hc : ∀ j, 0 ≤ j → j < i → c j = c2 j) (hG : G i s ↔ G2 i s) (hK : ∀ j, 0 ≤ j → j < i → (K j (c2 j) i s ↔ K2 j (c2 j) i s)) : OKx G K c i s ↔ OKx G2 K2 c2 i s := by
  unfold OKx
  rw [hG]
  constructor
  · rintro ⟨h1, h2⟩
    refine ⟨h1, fun j j0 j1 q => h2 j j0 j1 ?_⟩
    rw [hc j j0 j1]
    exact (hK j j0 j1).mpr q
  · rintro ⟨h1, h2⟩
    refine ⟨h1, fun j j0 j1 q => h2 j j0 j1 ?_⟩
    rw [hc j j0 j1] at q
    exact (hK j j0 j1).mp q
theorem Exr_cong {G G2 : Int → Int → Prop} {K K2 : Int → Int → Int → Int → Prop} {N : Int} (hG : ∀ i s, 0 ≤ i → i < N → (G i s ↔ G2 i s)) (hK : ∀ i s j t, 0 ≤ i → i < N → 0 ≤ j → j < N → (K i s j t ↔ K2 i s j t)) : ∀ (n : Nat) (i : Int) (c c2 : Int → Int), 0 ≤ i → i + n ≤ N → (∀ j, 0 ≤ j → j < i → c j = c2 j) → (Exr G K n i c ↔ Exr G2 K2 n i c2)
  | 0, _, _, _, _, _, _ => Iff.rfl
  | n + 1, i, c, c2, h0, h1, hc => by
    have key : ∀ s, (OKx G K c i s ↔ OKx G2 K2 c2 i s) := fun s => OKx_cong hc (hG i s h0 (by omega)) (fun j j0 j1 => hK j _ i s j0 (by omega) h0 (by omega))
    have ih : ∀ s, (Exr G K n (i + 1) (cset c i s) ↔ Exr G2 K2 n (i + 1) (cset c2 i s)) := fun s => Exr_cong hG hK n (i + 1) _ _ (by omega) (by omega) (fun j j0 j1 => by
      by_cases hj : j = i
      · rw [hj, cset_eq, cset_eq]
      · rw [cset_ne hj, cset_ne hj]; exact hc j j0 (by omega))
    constructor
    · rintro ⟨s, h2, h3⟩
      exact ⟨s, (key s).mp h2, (ih s).mp h3⟩
    · rintro ⟨s, h2, h3⟩
      exact ⟨s, (key s).mpr h2, (ih s).mpr h3⟩
theorem Lea_cong {G G2 : Int → Int → Prop} {K K2 : Int → Int → Int → Int → Prop} {N : Int} (hG : ∀ i s, 0 ≤ i → i < N → (G i s ↔ G2 i s)) (hK : ∀ i s j t, 0 ≤ i → i < N → 0 ≤ j → j < N → (K i s j t ↔ K2 i s j t)) : ∀ (n : Nat) (i : Int) (c c2 : Int → Int), 0 ≤ i → i + n ≤ N → (∀ j, 0 ≤ j → j < i + n → c j = c2 j) → Lea G K n i c → Lea G2 K2 n i c2
  | 0, _, _, _, _, _, _, _ => trivial
  | n + 1, i, c, c2, h0, h1, hc, h => by
    obtain ⟨⟨h2, h3⟩, h4⟩ := h
    have hci : c i = c2 i := hc i h0 (by omega)
    have key : ∀ s, (OKx G K c i s ↔ OKx G2 K2 c2 i s) := fun s => OKx_cong (fun j j0 j1 => hc j j0 (by omega)) (hG i s h0 (by omega)) (fun j j0 j1 => hK j _ i s j0 (by omega) h0 (by omega))
    refine ⟨⟨?_, fun s hs ho => ?_⟩, Lea_cong hG hK n (i + 1) c c2 (by omega) (by omega) (fun j j0 j1 => hc j j0 (by omega)) h4⟩
    · rw [← hci]; exact (key _).mp h2
    · rw [← Exr_cong hG hK n (i + 1) (cset c i s) (cset c2 i s) (by omega) (by omega) (fun j j0 j1 => by
        by_cases hj : j = i
        · rw [hj, cset_eq, cset_eq]
        · rw [cset_ne hj, cset_ne hj]; exact hc j j0 (by omega))]
      exact h3 s (by omega) ((key s).mpr ho)
theorem Exr_pre {G : Int → Int → Prop} {K : Int → Int → Int → Int → Prop} {n : Nat} {i : Int} {c c2 : Int → Int} (hi : 0 ≤ i) (hc : ∀ j, 0 ≤ j → j < i → c j = c2 j) : Exr G K n i c ↔ Exr G K n i c2 :=
  Exr_cong (N := i + n) (fun _ _ _ _ => Iff.rfl) (fun _ _ _ _ _ _ _ _ => Iff.rfl) n i c c2 hi (Int.le_refl _) hc
theorem Lea_ex {G : Int → Int → Prop} {K : Int → Int → Int → Int → Prop} : ∀ (n : Nat) (i : Int) (c : Int → Int), 0 ≤ i → Lea G K n i c → Exr G K n i c
  | 0, _, _, _, _ => trivial
  | n + 1, i, c, h0, h => ⟨c i, h.1.1, (Exr_pre (by omega) (fun j j0 j1 => by
      by_cases hj : j = i
      · rw [hj, cset_eq]
      · rw [cset_ne hj])).mpr (Lea_ex n (i + 1) c (by omega) h.2)⟩
/-- the least row is one -/
theorem Lea_uniq {G : Int → Int → Prop} {K : Int → Int → Int → Int → Prop} : ∀ (n : Nat) (i : Int) (c c2 : Int → Int), 0 ≤ i → (∀ j, 0 ≤ j → j < i → c j = c2 j) → Lea G K n i c → Lea G K n i c2 → ∀ j, 0 ≤ j → j < i + n → c j = c2 j
  | 0, i, c, c2, _, hc, _, _ => fun j j0 j1 => hc j j0 (by omega)
  | n + 1, i, c, c2, h0, hc, h, g => by
    obtain ⟨⟨h1, h2⟩, h3⟩ := h
    obtain ⟨⟨g1, g2⟩, g3⟩ := g
    have hOK : ∀ s, (OKx G K c i s ↔ OKx G K c2 i s) := fun s => OKx_cong hc Iff.rfl (fun _ _ _ => Iff.rfl)
    have e : ∀ s, (Exr G K n (i + 1) (cset c i s) ↔ Exr G K n (i + 1) (cset c2 i s)) := fun s => Exr_pre (by omega) (fun j j0 j1 => by
      by_cases hj : j = i
      · rw [hj, cset_eq, cset_eq]
      · rw [cset_ne hj, cset_ne hj]; exact hc j j0 (by omega))
    have self : ∀ c : Int → Int, Lea G K n (i + 1) c → Exr G K n (i + 1) (cset c i (c i)) := fun c hc => (Exr_pre (by omega) (fun j j0 j1 => by
      by_cases hj : j = i
      · rw [hj, cset_eq]
      · rw [cset_ne hj])).mpr (Lea_ex n (i + 1) c (by omega) hc)
    have hci : c i = c2 i := by
      rcases Int.lt_trichotomy (c i) (c2 i) with hlt | he | hgt
      · exact absurd ((e _).mp (self c h3)) (g2 _ hlt ((hOK _).mp h1))
      · exact he
      · exact absurd ((e _).mpr (self c2 g3)) (h2 _ hgt ((hOK _).mpr g1))
    have hc' : ∀ j, 0 ≤ j → j < i + 1 → c j = c2 j := fun j j0 j1 => by
      by_cases hj : j = i
      · rw [hj]; exact hci
      · exact hc j j0 (by omega)
    intro j j0 j1
    exact Lea_uniq n (i + 1) c c2 (by omega) hc' h3 g3 j j0 (by omega)
/-- where a row can be ended, each of its ships has a candidate that doesn't clash with those that stand -/
theorem Exr_each {G : Int → Int → Prop} {K : Int → Int → Int → Int → Prop} : ∀ (n : Nat) (i : Int) (c : Int → Int), 0 ≤ i → Exr G K n i c → ∀ m, i ≤ m → m < i + n → ∃ s, G m s ∧ ∀ j, 0 ≤ j → j < i → ¬ K j (c j) m s
  | 0, _, _, _, _ => fun m m0 m1 => by omega
  | n + 1, i, c, h0, ⟨s, h1, h2⟩ => fun m m0 m1 => by
    by_cases hm : m = i
    · subst hm
      exact ⟨s, h1.1, h1.2⟩
    · obtain ⟨t, t1, t2⟩ := Exr_each n (i + 1) (cset c i s) (by omega) h2 m (by omega) (by omega)
      refine ⟨t, t1, fun j j0 j1 => ?_⟩
      have := t2 j j0 (by omega)
      rw [cset_ne (by omega)] at this
      exact this
/-- an image of a row under a map that keeps the order -/
theorem Exr_map {G G2 : Int → Int → Prop} {K K2 : Int → Int → Int → Int → Prop} {f : Int → Int} {N : Int} (hG : ∀ i s, 0 ≤ i → i < N → (G2 i s ↔ ∃ t, G i t ∧ s = f t)) (hK : ∀ i s j t, 0 ≤ i → i < N → 0 ≤ j → j < N → G i s → G j t → (K2 i (f s) j (f t) ↔ K i s j t)) : ∀ (n : Nat) (i : Int) (c c2 : Int → Int), 0 ≤ i → i + n ≤ N → (∀ j, 0 ≤ j → j < i → G j (c j) ∧ c2 j = f (c j)) → (Exr G K n i c ↔ Exr G2 K2 n i c2)
  | 0, _, _, _, _, _, _ => Iff.rfl
  | n + 1, i, c, c2, h0, h1, hc => by
    have key : ∀ t, G i t → (OKx G K c i t ↔ OKx G2 K2 c2 i (f t)) := fun t ht => by
      unfold OKx
      constructor
      · rintro ⟨-, q⟩
        refine ⟨(hG i _ h0 (by omega)).mpr ⟨t, ht, rfl⟩, fun j j0 j1 z => q j j0 j1 ?_⟩
        rw [(hc j j0 j1).2] at z
        exact (hK j _ i t j0 (by omega) h0 (by omega) (hc j j0 j1).1 ht).mp z
      · rintro ⟨-, q⟩
        refine ⟨ht, fun j j0 j1 z => q j j0 j1 ?_⟩
        rw [(hc j j0 j1).2]
        exact (hK j _ i t j0 (by omega) h0 (by omega) (hc j j0 j1).1 ht).mpr z
    have ih : ∀ t, G i t → (Exr G K n (i + 1) (cset c i t) ↔ Exr G2 K2 n (i + 1) (cset c2 i (f t))) := fun t ht => Exr_map hG hK n (i + 1) _ _ (by omega) (by omega) (fun j j0 j1 => by
      by_cases hj : j = i
      · rw [hj, cset_eq, cset_eq]; exact ⟨ht, rfl⟩
      · rw [cset_ne hj, cset_ne hj]; exact hc j j0 (by omega))
    constructor
    · rintro ⟨t, h2, h3⟩
      exact ⟨f t, (key t h2.1).mp h2, (ih t h2.1).mp h3⟩
    · rintro ⟨s, h2, h3⟩
      obtain ⟨t, t1, rfl⟩ := (hG i s h0 (by omega)).mp h2.1
      exact ⟨t, (key t t1).mpr h2, (ih t t1).mpr h3⟩
theorem Lea_map {G G2 : Int → Int → Prop} {K K2 : Int → Int → Int → Int → Prop} {f : Int → Int} {N : Int} (hf : ∀ i s t, 0 ≤ i → i < N → G i s → G i t → (f s < f t ↔ s < t)) (hG : ∀ i s, 0 ≤ i → i < N → (G2 i s ↔ ∃ t, G i t ∧ s = f t)) (hK : ∀ i s j t, 0 ≤ i → i < N → 0 ≤ j → j < N → G i s → G j t → (K2 i (f s) j (f t) ↔ K i s j t)) : ∀ (n : Nat) (i : Int) (c c2 : Int → Int), 0 ≤ i → i + n ≤ N → (∀ j, 0 ≤ j → j < i → G j (c j)) → (∀ j, 0 ≤ j → j < i + n → c2 j = f (c j)) → Lea G K n i c → Lea G2 K2 n i c2
  | 0, _, _, _, _, _, _, _, _ => trivial
  | n + 1, i, c, c2, h0, h1, hg, hc, h => by
    obtain ⟨⟨h2, h3⟩, h4⟩ := h
    have hgi : G i (c i) := h2.1
    have hci : c2 i = f (c i) := hc i h0 (by omega)
    have key : ∀ t, G i t → (OKx G K c i t ↔ OKx G2 K2 c2 i (f t)) := fun t ht => by
      unfold OKx
      constructor
      · rintro ⟨-, q⟩
        refine ⟨(hG i _ h0 (by omega)).mpr ⟨t, ht, rfl⟩, fun j j0 j1 z => q j j0 j1 ?_⟩
        rw [hc j j0 (by omega)] at z
        exact (hK j _ i t j0 (by omega) h0 (by omega) (hg j j0 j1) ht).mp z
      · rintro ⟨-, q⟩
        refine ⟨ht, fun j j0 j1 z => q j j0 j1 ?_⟩
        rw [hc j j0 (by omega)]
        exact (hK j _ i t j0 (by omega) h0 (by omega) (hg j j0 j1) ht).mpr z
    refine ⟨⟨?_, fun s hs ho => ?_⟩, Lea_map hf hG hK n (i + 1) c c2 (by omega) (by omega) (fun j j0 j1 => by
      by_cases hj : j = i
      · rw [hj]; exact hgi
      · exact hg j j0 (by omega)) (fun j j0 j1 => hc j j0 (by omega)) h4⟩
    · rw [hci]; exact (key _ hgi).mp h2
    · obtain ⟨t, t1, rfl⟩ := (hG i s h0 (by omega)).mp ho.1
      rw [← Exr_map hG hK n (i + 1) (cset c i t) (cset c2 i (f t)) (by omega) (by omega) (fun j j0 j1 => by
        by_cases hj : j = i
        · rw [hj, cset_eq, cset_eq]; exact ⟨t1, rfl⟩
        · rw [cset_ne hj, cset_ne hj]; exact ⟨hg j j0 (by omega), hc j j0 (by omega)⟩)]
      exact h3 t ((hf i t (c i) h0 (by omega) t1 hgi).mp (by omega)) ((key t t1).mpr ho)
