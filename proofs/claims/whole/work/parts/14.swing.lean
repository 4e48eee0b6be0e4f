/-! HOW SHIPS LIE: the words, and the class's Swing -/
theorem windX_r (w : Int) : -1 ≤ windX w ∧ windX w ≤ 1 := by unfold windX; repeat' split <;> omega
theorem windY_r (w : Int) : -1 ≤ windY w ∧ windY w ≤ 1 := by unfold windY; repeat' split <;> omega
theorem mulB {c v : Int} (hc : 0 ≤ c ∧ c ≤ 2) (hv : -1 ≤ v ∧ v ≤ 1) : -2 ≤ c * v ∧ c * v ≤ 2 := by
  have h : v = -1 ∨ v = 0 ∨ v = 1 := by omega
  rcases h with rfl | rfl | rfl <;> omega
/-- lies on, by a wind; may lie; clash; sweeps -/
def LO (ch sd x y w cx cy : Int) : Prop := (x + ch * windX w ≤ cx ∧ cx < x + ch * windX w + sd) ∧ y + ch * windY w ≤ cy ∧ cy < y + ch * windY w + sd
def ML (W H t : Int) (dep : Int → Int) (F dr ch sd x y : Int) : Prop := ∀ w cx cy, 0 ≤ w → w < 8 → bt F w = true → LO ch sd x y w cx cy → inE W H cx cy ∧ dr ≤ wat W H t dep cx cy
def CLw (ch sd x y ch2 sd2 x2 y2 w : Int) : Prop := (x + ch * windX w < x2 + ch2 * windX w + sd2 ∧ x2 + ch2 * windX w < x + ch * windX w + sd) ∧ y + ch * windY w < y2 + ch2 * windY w + sd2 ∧ y2 + ch2 * windY w < y + ch * windY w + sd
def CL (F ch sd x y ch2 sd2 x2 y2 : Int) : Prop := ∃ w, 0 ≤ w ∧ w < 8 ∧ bt F w = true ∧ CLw ch sd x y ch2 sd2 x2 y2 w
def SWP (F ch sd x y cx cy : Int) : Prop := ∃ w, 0 ≤ w ∧ w < 8 ∧ bt F w = true ∧ LO ch sd x y w cx cy
abbrev cLO (I : IM) (a w cx cy : Int) : Prop := LO (I 4 a) (I 5 a) (I 6 a) (I 7 a) w cx cy
abbrev cML (I : IM) (F a : Int) : Prop := ML (I 1 0) (I 1 1) (I 1 2) (I 2) F (I 3 a) (I 4 a) (I 5 a) (I 6 a) (I 7 a)
abbrev cCL (I : IM) (F a b : Int) : Prop := CL F (I 4 a) (I 5 a) (I 6 a) (I 7 a) (I 4 b) (I 5 b) (I 6 b) (I 7 b)
abbrev cSW (I : IM) (F a cx cy : Int) : Prop := SWP F (I 4 a) (I 5 a) (I 6 a) (I 7 a) cx cy
/-- the least of some numbers, or T if there are none -/
def MinOf (T : Int) (Pr : Int → Prop) (z : Int) : Prop := (∀ v, Pr v → z ≤ v) ∧ ((z = T ∧ ∀ v, ¬ Pr v) ∨ Pr z)
theorem MinOf.none {T : Int} {Pr : Int → Prop} (h : ∀ v, ¬ Pr v) : MinOf T Pr T := ⟨fun v hv => absurd hv (h v), Or.inl ⟨rfl, h⟩⟩
theorem MinOf.cong {T z : Int} {P Q : Int → Prop} (h : MinOf T P z) (e : ∀ v, P v ↔ Q v) : MinOf T Q z := ⟨fun v hv => h.1 v ((e v).mpr hv), h.2.imp (fun x => ⟨x.1, fun v hv => x.2 v ((e v).mpr hv)⟩) (fun x => (e z).mp x)⟩
theorem MinOf.add {T z v : Int} {P : Int → Prop} (h : MinOf T P z) (hv : v ≤ T) : MinOf T (fun u => P u ∨ u = v) (if v < z then v else z) := by
  obtain ⟨h1, h2⟩ := h
  refine ⟨fun u hu => ?_, ?_⟩
  · rcases hu with hu | rfl
    · have := h1 u hu
      split <;> omega
    · split <;> omega
  · right
    split
    · exact Or.inr rfl
    · rcases h2 with ⟨rfl, -⟩ | h2
      · right; omega
      · exact Or.inl h2
theorem MinOf.join {T z v : Int} {P Q : Int → Prop} (h : MinOf T P z) (g : MinOf T Q v) (hv : Q v) (hT : v ≤ T) : MinOf T (fun u => P u ∨ Q u) (if v < z then v else z) := by
  obtain ⟨h1, h2⟩ := h
  obtain ⟨g1, g2⟩ := g
  refine ⟨fun u hu => ?_, ?_⟩
  · rcases hu with hu | hu
    · have := h1 u hu
      split <;> omega
    · have := g1 u hu
      split <;> omega
  · right
    split
    · exact Or.inr hv
    · rcases h2 with ⟨rfl, -⟩ | h2
      · right
        have : v = z := by omega
        rw [← this]; exact hv
      · exact Or.inl h2
theorem MinOf.ge {T z d : Int} {P : Int → Prop} (h : MinOf T P z) (hT : d ≤ T) : d ≤ z ↔ ∀ v, P v → d ≤ v := by
  constructor
  · intro hz v hv
    have := h.1 v hv
    omega
  · intro hall
    rcases h.2 with ⟨rfl, -⟩ | h2
    · exact hT
    · exact hall z h2
theorem MinOf.uniq {T T2 z z2 : Int} {P : Int → Prop} (h : MinOf T P z) (g : MinOf T2 P z2) (hz : P z) : z = z2 := by
  have h1 := g.1 z hz
  rcases g.2 with ⟨-, hn⟩ | hp
  · exact absurd hz (hn z)
  · have := h.1 z2 hp
    omega
/-- a slot's numbers -/
theorem slotB {I : IM} (h : CI1 I) {s : Int} (hs : Slot1 I s) : (1 ≤ I 3 s ∧ I 3 s ≤ 9) ∧ (0 ≤ I 4 s ∧ I 4 s ≤ 2) ∧ (1 ≤ I 5 s ∧ I 5 s ≤ 2) := h s hs
theorem ext1 {P : Int → Prop} {b k : Int} (h : ∀ w, b ≤ w → w < k → P w) (hk : P k) : ∀ w, b ≤ w → w < k + 1 → P w := fun w h0 h1 => by
  rcases Classical.em (w = k) with e | e
  · rw [e]; exact hk
  · exact h w h0 (by omega)
section SWG
variable {xs : RO} {d : Nat} {I : IM} {L : LM}

theorem c_Swing_blows {F w : Int} (h0 : 0 ≤ F) (h1 : F ≤ 2147483647) (h2 : 0 ≤ w) (h3 : w ≤ 30) : Wk xs x_Swing_blows d 0 0 0 [some (vi F), some (vi w)] [] X2 I L (pI (bi (bt F w = true)) I L) := by
  refine Wk.iload_n (k := 0) (q := 1) (by decide +kernel) rfl rfl rfl ?_
  refine Wk.iload_n (k := 1) (q := 2) (by decide +kernel) rfl rfl rfl ?_
  refine Wk.ishr (q := 3) (by decide +kernel) rfl ?_
  refine Wk.iconst (n := 1) (q := 4) (by decide +kernel) rfl ?_
  refine Wk.iand (q := 5) (by decide +kernel) rfl ?_
  rw [bit_int h0 h1 h2 h3]
  refine Wk.if_eq (off := (7)) (t := 12) (q := 8) (by decide +kernel) (by decide) rfl (by first | omega | exact bi_rng _) (fun hc5 => ?_) (fun hc5 => ?_)
  · refine Wk.iconst (n := 0) (q := 13) (by decide +kernel) rfl ?_
    exact Wk.rZ (by decide +kernel) rfl (by first | omega | decide | exact bi_01 _) (by first | (rw [bi_eq0] at hc5; rw [bi_f hc5]; done) | (rw [bi_eq0, Classical.not_not] at hc5; rw [bi_t hc5]; done))
  · refine Wk.iconst (n := 1) (q := 9) (by decide +kernel) rfl ?_
    refine Wk.goto (off := (4)) (q := 13) (by decide +kernel) (by decide) ?_
    exact Wk.rZ (by decide +kernel) rfl (by first | omega | decide | exact bi_01 _) (by first | (rw [bi_eq0] at hc5; rw [bi_f hc5]; done) | (rw [bi_eq0, Classical.not_not] at hc5; rw [bi_t hc5]; done))
theorem c_Swing_firstX {s w : Int} (h0 : 0 ≤ s) (h1 : s < 8) (h2 : 0 ≤ w) (h3 : w < 8) : Wk xs x_Swing_firstX d 0 0 0 [some (vr 1), some (vi s), some (vi w)] [] X2 I L (pI (I 6 s + I 4 s * windX w) I L) := by
  refine Wk.aload_n (k := 0) (q := 1) (by decide +kernel) rfl rfl rfl ?_
  refine Wk.getR (r := 6) (q := 4) f_Swing_9 (by decide +kernel) O_1 (by decide) rfl rfl rfl ?_
  refine Wk.iload_n (k := 1) (q := 5) (by decide +kernel) rfl rfl rfl ?_
  refine Wk.iaload (q := 6) (by decide +kernel) A_6 (by first | omega | exact bi_rng _) (by first | omega | exact bi_rng _) rfl ?_
  refine Wk.aload_n (k := 0) (q := 7) (by decide +kernel) rfl rfl rfl ?_
  refine Wk.getR (r := 4) (q := 10) f_Swing_15 (by decide +kernel) O_1 (by decide) rfl rfl rfl ?_
  refine Wk.iload_n (k := 1) (q := 11) (by decide +kernel) rfl rfl rfl ?_
  refine Wk.iaload (q := 12) (by decide +kernel) A_4 (by first | omega | exact bi_rng _) (by first | omega | exact bi_rng _) rfl ?_
  refine Wk.getsX (q := 15) fs_Swing_18 (by decide +kernel) rfl ?_
  refine Wk.iload_n (k := 2) (q := 16) (by decide +kernel) rfl rfl rfl ?_
  refine Wk.ialX (q := 17) (by decide +kernel) (by first | omega | exact bi_rng _) (by first | omega | exact bi_rng _) rfl ?_
  refine Wk.imul (q := 18) (by decide +kernel) rfl ?_
  refine Wk.iadd (q := 19) (by decide +kernel) rfl ?_
  exact Wk.rI (by decide +kernel) rfl (rfl)
theorem c_Swing_firstY {s w : Int} (h0 : 0 ≤ s) (h1 : s < 8) (h2 : 0 ≤ w) (h3 : w < 8) : Wk xs x_Swing_firstY d 0 0 0 [some (vr 1), some (vi s), some (vi w)] [] X2 I L (pI (I 7 s + I 4 s * windY w) I L) := by
  refine Wk.aload_n (k := 0) (q := 1) (by decide +kernel) rfl rfl rfl ?_
  refine Wk.getR (r := 7) (q := 4) f_Swing_21 (by decide +kernel) O_1 (by decide) rfl rfl rfl ?_
  refine Wk.iload_n (k := 1) (q := 5) (by decide +kernel) rfl rfl rfl ?_
  refine Wk.iaload (q := 6) (by decide +kernel) A_7 (by first | omega | exact bi_rng _) (by first | omega | exact bi_rng _) rfl ?_
  refine Wk.aload_n (k := 0) (q := 7) (by decide +kernel) rfl rfl rfl ?_
  refine Wk.getR (r := 4) (q := 10) f_Swing_15 (by decide +kernel) O_1 (by decide) rfl rfl rfl ?_
  refine Wk.iload_n (k := 1) (q := 11) (by decide +kernel) rfl rfl rfl ?_
  refine Wk.iaload (q := 12) (by decide +kernel) A_4 (by first | omega | exact bi_rng _) (by first | omega | exact bi_rng _) rfl ?_
  refine Wk.getsY (q := 15) fs_Swing_24 (by decide +kernel) rfl ?_
  refine Wk.iload_n (k := 2) (q := 16) (by decide +kernel) rfl rfl rfl ?_
  refine Wk.ialY (q := 17) (by decide +kernel) (by first | omega | exact bi_rng _) (by first | omega | exact bi_rng _) rfl ?_
  refine Wk.imul (q := 18) (by decide +kernel) rfl ?_
  refine Wk.iadd (q := 19) (by decide +kernel) rfl ?_
  exact Wk.rI (by decide +kernel) rfl (rfl)
theorem c_Swing_liesOn {a w x y : Int} (h0 : 0 ≤ a) (h1 : a < I 1 4) (h2 : 0 ≤ w) (h3 : w < 8) (hC : CW I) (hcx : 0 ≤ x ∧ x ≤ 6) (hcy : 0 ≤ y ∧ y ≤ 6) : Wk xs x_Swing_liesOn (d + 1) 0 0 0 [some (vr 1), some (vi a), some (vi w), some (vi x), some (vi y), none, none] [] X2 I L (pI (bi (cLO I a w x y)) I L) := by
  obtain ⟨⟨hW, hH, -, -, hA, -, -⟩, hS, hP⟩ := id hC
  obtain ⟨hdr, hch, hsd⟩ := hS a (Or.inl ⟨h0, h1⟩)
  obtain ⟨hx, hy⟩ := hP a h0 h1
  have m1 := mulB hch (windX_r w)
  have m2 := mulB hch (windY_r w)
  refine Wk.iload_n (k := 3) (q := 1) (by decide +kernel) rfl rfl rfl ?_
  refine Wk.aload_n (k := 0) (q := 2) (by decide +kernel) rfl rfl rfl ?_
  refine Wk.iload_n (k := 1) (q := 3) (by decide +kernel) rfl rfl rfl ?_
  refine Wk.iload_n (k := 2) (q := 4) (by decide +kernel) rfl rfl rfl ?_
  refine Wk.cSi (q := 7) l_Swing_27 m_Swing_firstX (by decide +kernel) (fun _ h => h) (Nat.le_of_ble_eq_true rfl) (Nat.le_of_ble_eq_true rfl) rfl (c_Swing_firstX (by omega) (by omega) (by omega) (by omega)) rfl ?_
  refine Wk.isub (q := 8) (by decide +kernel) rfl ?_
  refine Wk.istore (i := 5) (q := 10) (by decide +kernel) (by decide) rfl (fun _ h => h) rfl ?_
  refine Wk.iload (i := 4) (q := 12) (by decide +kernel) rfl rfl ?_
  refine Wk.aload_n (k := 0) (q := 13) (by decide +kernel) rfl rfl rfl ?_
  refine Wk.iload_n (k := 1) (q := 14) (by decide +kernel) rfl rfl rfl ?_
  refine Wk.iload_n (k := 2) (q := 15) (by decide +kernel) rfl rfl rfl ?_
  refine Wk.cSi (q := 18) l_Swing_33 m_Swing_firstY (by decide +kernel) (fun _ h => h) (Nat.le_of_ble_eq_true rfl) (Nat.le_of_ble_eq_true rfl) rfl (c_Swing_firstY (by omega) (by omega) (by omega) (by omega)) rfl ?_
  refine Wk.isub (q := 19) (by decide +kernel) rfl ?_
  refine Wk.istore (i := 6) (q := 21) (by decide +kernel) (by decide) rfl (fun _ h => h) rfl ?_
  refine Wk.iload (i := 5) (q := 23) (by decide +kernel) rfl rfl ?_
  refine Wk.if_lt (off := (34)) (t := 57) (q := 26) (by decide +kernel) (by decide) rfl (by first | omega | exact bi_rng _) (fun hc23 => ?_) (fun hc23 => ?_)
  · refine Wk.iconst (n := 0) (q := 58) (by decide +kernel) rfl ?_
    exact Wk.rZ (by decide +kernel) rfl (by first | omega | decide | exact bi_01 _) (by first | rw [bi_t (by unfold cLO LO; omega)] | rw [bi_f (by unfold cLO LO; omega)])
  · refine Wk.iload (i := 5) (q := 28) (by decide +kernel) rfl rfl ?_
    refine Wk.aload_n (k := 0) (q := 29) (by decide +kernel) rfl rfl rfl ?_
    refine Wk.getR (r := 5) (q := 32) f_Swing_36 (by decide +kernel) O_1 (by decide) rfl rfl rfl ?_
    refine Wk.iload_n (k := 1) (q := 33) (by decide +kernel) rfl rfl rfl ?_
    refine Wk.iaload (q := 34) (by decide +kernel) A_5 (by first | omega | exact bi_rng _) (by first | omega | exact bi_rng _) rfl ?_
    refine Wk.icmp_ge (off := (23)) (t := 57) (q := 37) (by decide +kernel) (by decide) rfl (by first | omega | exact bi_rng _) (by first | omega | exact bi_rng _) (fun hc34 => ?_) (fun hc34 => ?_)
    · refine Wk.iconst (n := 0) (q := 58) (by decide +kernel) rfl ?_
      exact Wk.rZ (by decide +kernel) rfl (by first | omega | decide | exact bi_01 _) (by first | rw [bi_t (by unfold cLO LO; omega)] | rw [bi_f (by unfold cLO LO; omega)])
    · refine Wk.iload (i := 6) (q := 39) (by decide +kernel) rfl rfl ?_
      refine Wk.if_lt (off := (18)) (t := 57) (q := 42) (by decide +kernel) (by decide) rfl (by first | omega | exact bi_rng _) (fun hc39 => ?_) (fun hc39 => ?_)
      · refine Wk.iconst (n := 0) (q := 58) (by decide +kernel) rfl ?_
        exact Wk.rZ (by decide +kernel) rfl (by first | omega | decide | exact bi_01 _) (by first | rw [bi_t (by unfold cLO LO; omega)] | rw [bi_f (by unfold cLO LO; omega)])
      · refine Wk.iload (i := 6) (q := 44) (by decide +kernel) rfl rfl ?_
        refine Wk.aload_n (k := 0) (q := 45) (by decide +kernel) rfl rfl rfl ?_
        refine Wk.getR (r := 5) (q := 48) f_Swing_36 (by decide +kernel) O_1 (by decide) rfl rfl rfl ?_
        refine Wk.iload_n (k := 1) (q := 49) (by decide +kernel) rfl rfl rfl ?_
        refine Wk.iaload (q := 50) (by decide +kernel) A_5 (by first | omega | exact bi_rng _) (by first | omega | exact bi_rng _) rfl ?_
        refine Wk.icmp_ge (off := (7)) (t := 57) (q := 53) (by decide +kernel) (by decide) rfl (by first | omega | exact bi_rng _) (by first | omega | exact bi_rng _) (fun hc50 => ?_) (fun hc50 => ?_)
        · refine Wk.iconst (n := 0) (q := 58) (by decide +kernel) rfl ?_
          exact Wk.rZ (by decide +kernel) rfl (by first | omega | decide | exact bi_01 _) (by first | rw [bi_t (by unfold cLO LO; omega)] | rw [bi_f (by unfold cLO LO; omega)])
        · refine Wk.iconst (n := 1) (q := 54) (by decide +kernel) rfl ?_
          refine Wk.goto (off := (4)) (q := 58) (by decide +kernel) (by decide) ?_
          exact Wk.rZ (by decide +kernel) rfl (by first | omega | decide | exact bi_01 _) (by first | rw [bi_t (by unfold cLO LO; omega)] | rw [bi_f (by unfold cLO LO; omega)])
theorem c_Swing_clashBy {a b w : Int} (h0 : 0 ≤ a) (h1 : a < I 1 4) (g0 : 0 ≤ b) (g1 : b < I 1 4) (h2 : 0 ≤ w) (h3 : w < 8) (hC : CW I) : Wk xs x_Swing_clashBy (d + 1) 0 0 0 [some (vr 1), some (vi a), some (vi b), some (vi w), none, none] [] X2 I L (pI (bi (CLw (I 4 a) (I 5 a) (I 6 a) (I 7 a) (I 4 b) (I 5 b) (I 6 b) (I 7 b) w)) I L) := by
  obtain ⟨⟨hW, hH, -, -, hA, -, -⟩, hS, hP⟩ := id hC
  obtain ⟨hdr, hch, hsd⟩ := hS a (Or.inl ⟨h0, h1⟩)
  obtain ⟨hx, hy⟩ := hP a h0 h1
  obtain ⟨-, hch2, hsd2⟩ := hS b (Or.inl ⟨g0, g1⟩)
  obtain ⟨hx2, hy2⟩ := hP b g0 g1
  have m1 := mulB hch (windX_r w)
  have m2 := mulB hch (windY_r w)
  have m3 := mulB hch2 (windX_r w)
  have m4 := mulB hch2 (windY_r w)
  refine Wk.aload_n (k := 0) (q := 1) (by decide +kernel) rfl rfl rfl ?_
  refine Wk.iload_n (k := 2) (q := 2) (by decide +kernel) rfl rfl rfl ?_
  refine Wk.iload_n (k := 3) (q := 3) (by decide +kernel) rfl rfl rfl ?_
  refine Wk.cSi (q := 6) l_Swing_27 m_Swing_firstX (by decide +kernel) (fun _ h => h) (Nat.le_of_ble_eq_true rfl) (Nat.le_of_ble_eq_true rfl) rfl (c_Swing_firstX (by omega) (by omega) (by omega) (by omega)) rfl ?_
  refine Wk.aload_n (k := 0) (q := 7) (by decide +kernel) rfl rfl rfl ?_
  refine Wk.iload_n (k := 1) (q := 8) (by decide +kernel) rfl rfl rfl ?_
  refine Wk.iload_n (k := 3) (q := 9) (by decide +kernel) rfl rfl rfl ?_
  refine Wk.cSi (q := 12) l_Swing_27 m_Swing_firstX (by decide +kernel) (fun _ h => h) (Nat.le_of_ble_eq_true rfl) (Nat.le_of_ble_eq_true rfl) rfl (c_Swing_firstX (by omega) (by omega) (by omega) (by omega)) rfl ?_
  refine Wk.isub (q := 13) (by decide +kernel) rfl ?_
  refine Wk.istore (i := 4) (q := 15) (by decide +kernel) (by decide) rfl (fun _ h => h) rfl ?_
  refine Wk.aload_n (k := 0) (q := 16) (by decide +kernel) rfl rfl rfl ?_
  refine Wk.iload_n (k := 2) (q := 17) (by decide +kernel) rfl rfl rfl ?_
  refine Wk.iload_n (k := 3) (q := 18) (by decide +kernel) rfl rfl rfl ?_
  refine Wk.cSi (q := 21) l_Swing_33 m_Swing_firstY (by decide +kernel) (fun _ h => h) (Nat.le_of_ble_eq_true rfl) (Nat.le_of_ble_eq_true rfl) rfl (c_Swing_firstY (by omega) (by omega) (by omega) (by omega)) rfl ?_
  refine Wk.aload_n (k := 0) (q := 22) (by decide +kernel) rfl rfl rfl ?_
  refine Wk.iload_n (k := 1) (q := 23) (by decide +kernel) rfl rfl rfl ?_
  refine Wk.iload_n (k := 3) (q := 24) (by decide +kernel) rfl rfl rfl ?_
  refine Wk.cSi (q := 27) l_Swing_33 m_Swing_firstY (by decide +kernel) (fun _ h => h) (Nat.le_of_ble_eq_true rfl) (Nat.le_of_ble_eq_true rfl) rfl (c_Swing_firstY (by omega) (by omega) (by omega) (by omega)) rfl ?_
  refine Wk.isub (q := 28) (by decide +kernel) rfl ?_
  refine Wk.istore (i := 5) (q := 30) (by decide +kernel) (by decide) rfl (fun _ h => h) rfl ?_
  refine Wk.iload (i := 4) (q := 32) (by decide +kernel) rfl rfl ?_
  refine Wk.aload_n (k := 0) (q := 33) (by decide +kernel) rfl rfl rfl ?_
  refine Wk.getR (r := 5) (q := 36) f_Swing_36 (by decide +kernel) O_1 (by decide) rfl rfl rfl ?_
  refine Wk.iload_n (k := 1) (q := 37) (by decide +kernel) rfl rfl rfl ?_
  refine Wk.iaload (q := 38) (by decide +kernel) A_5 (by first | omega | exact bi_rng _) (by first | omega | exact bi_rng _) rfl ?_
  refine Wk.icmp_ge (off := (42)) (t := 80) (q := 41) (by decide +kernel) (by decide) rfl (by first | omega | exact bi_rng _) (by first | omega | exact bi_rng _) (fun hc38 => ?_) (fun hc38 => ?_)
  · refine Wk.iconst (n := 0) (q := 81) (by decide +kernel) rfl ?_
    exact Wk.rZ (by decide +kernel) rfl (by first | omega | decide | exact bi_01 _) (by first | rw [bi_t (by unfold CLw; omega)] | rw [bi_f (by unfold CLw; omega)])
  · refine Wk.iload (i := 4) (q := 43) (by decide +kernel) rfl rfl ?_
    refine Wk.ineg (q := 44) (by decide +kernel) rfl ?_
    refine Wk.aload_n (k := 0) (q := 45) (by decide +kernel) rfl rfl rfl ?_
    refine Wk.getR (r := 5) (q := 48) f_Swing_36 (by decide +kernel) O_1 (by decide) rfl rfl rfl ?_
    refine Wk.iload_n (k := 2) (q := 49) (by decide +kernel) rfl rfl rfl ?_
    refine Wk.iaload (q := 50) (by decide +kernel) A_5 (by first | omega | exact bi_rng _) (by first | omega | exact bi_rng _) rfl ?_
    refine Wk.icmp_ge (off := (30)) (t := 80) (q := 53) (by decide +kernel) (by decide) rfl (by first | omega | exact bi_rng _) (by first | omega | exact bi_rng _) (fun hc50 => ?_) (fun hc50 => ?_)
    · refine Wk.iconst (n := 0) (q := 81) (by decide +kernel) rfl ?_
      exact Wk.rZ (by decide +kernel) rfl (by first | omega | decide | exact bi_01 _) (by first | rw [bi_t (by unfold CLw; omega)] | rw [bi_f (by unfold CLw; omega)])
    · refine Wk.iload (i := 5) (q := 55) (by decide +kernel) rfl rfl ?_
      refine Wk.aload_n (k := 0) (q := 56) (by decide +kernel) rfl rfl rfl ?_
      refine Wk.getR (r := 5) (q := 59) f_Swing_36 (by decide +kernel) O_1 (by decide) rfl rfl rfl ?_
      refine Wk.iload_n (k := 1) (q := 60) (by decide +kernel) rfl rfl rfl ?_
      refine Wk.iaload (q := 61) (by decide +kernel) A_5 (by first | omega | exact bi_rng _) (by first | omega | exact bi_rng _) rfl ?_
      refine Wk.icmp_ge (off := (19)) (t := 80) (q := 64) (by decide +kernel) (by decide) rfl (by first | omega | exact bi_rng _) (by first | omega | exact bi_rng _) (fun hc61 => ?_) (fun hc61 => ?_)
      · refine Wk.iconst (n := 0) (q := 81) (by decide +kernel) rfl ?_
        exact Wk.rZ (by decide +kernel) rfl (by first | omega | decide | exact bi_01 _) (by first | rw [bi_t (by unfold CLw; omega)] | rw [bi_f (by unfold CLw; omega)])
      · refine Wk.iload (i := 5) (q := 66) (by decide +kernel) rfl rfl ?_
        refine Wk.ineg (q := 67) (by decide +kernel) rfl ?_
        refine Wk.aload_n (k := 0) (q := 68) (by decide +kernel) rfl rfl rfl ?_
        refine Wk.getR (r := 5) (q := 71) f_Swing_36 (by decide +kernel) O_1 (by decide) rfl rfl rfl ?_
        refine Wk.iload_n (k := 2) (q := 72) (by decide +kernel) rfl rfl rfl ?_
        refine Wk.iaload (q := 73) (by decide +kernel) A_5 (by first | omega | exact bi_rng _) (by first | omega | exact bi_rng _) rfl ?_
        refine Wk.icmp_ge (off := (7)) (t := 80) (q := 76) (by decide +kernel) (by decide) rfl (by first | omega | exact bi_rng _) (by first | omega | exact bi_rng _) (fun hc73 => ?_) (fun hc73 => ?_)
        · refine Wk.iconst (n := 0) (q := 81) (by decide +kernel) rfl ?_
          exact Wk.rZ (by decide +kernel) rfl (by first | omega | decide | exact bi_01 _) (by first | rw [bi_t (by unfold CLw; omega)] | rw [bi_f (by unfold CLw; omega)])
        · refine Wk.iconst (n := 1) (q := 77) (by decide +kernel) rfl ?_
          refine Wk.goto (off := (4)) (q := 81) (by decide +kernel) (by decide) ?_
          exact Wk.rZ (by decide +kernel) rfl (by first | omega | decide | exact bi_01 _) (by first | rw [bi_t (by unfold CLw; omega)] | rw [bi_f (by unfold CLw; omega)])
theorem c_Swing_clash {a b F : Int} (h0 : 0 ≤ a) (h1 : a < I 1 4) (g0 : 0 ≤ b) (g1 : b < I 1 4) (hF : 0 ≤ F ∧ F ≤ 255) (hC : CW I) : Wk xs x_Swing_clash (d + 2) 0 0 0 [some (vr 1), some (vi a), some (vi b), some (vi F), none] [] X2 I L (pI (bi (cCL I F a b)) I L) := by
  have key : Wk xs x_Swing_clash (d + 2) 0 0 3 [some (vr 1), some (vi a), some (vi b), some (vi F), some (vi 0)] [] X2 I L (pI (bi (cCL I F a b)) I L) := by
    refine loopS (σ := Unit) (fun k _ => Wk xs x_Swing_clash (d + 2) 0 0 3 [some (vr 1), some (vi a), some (vi b), some (vi F), some (vi k)] [] X2 I L (pI (bi (cCL I F a b)) I L)) (fun k _ => ∀ w, 0 ≤ w → w < k → bt F w = true → ¬ CLw (I 4 a) (I 5 a) (I 6 a) (I 7 a) (I 4 b) (I 5 b) (I 6 b) (I 7 b) w) 8 0 () (by omega) (fun w z0 z1 => by omega) ?_ ?_
    · intro _ hJ
      refine Wk.iload (i := 4) (q := 5) (by decide +kernel) rfl rfl ?_
      refine Wk.bipush (n := 8) (q := 7) (by decide +kernel) (by decide +kernel) rfl ?_
      refine Wk.icmp_ge (off := (31)) (t := 38) (q := 10) (by decide +kernel) (by decide) rfl (by first | omega | exact bi_rng _) (by first | omega | exact bi_rng _) (fun hc7 => ?_) (fun hc7 => ?_)
      · refine Wk.iconst (n := 0) (q := 39) (by decide +kernel) rfl ?_
        exact Wk.rZ (by decide +kernel) rfl (by first | omega | decide | exact bi_01 _) (by rw [bi_f]; intro hz; obtain ⟨w, z0, z1, z2, z3⟩ := hz; exact hJ w z0 z1 z2 z3)
      · omega
    · intro k _ k0 k1 hJ ih
      refine Wk.iload (i := 4) (q := 5) (by decide +kernel) rfl rfl ?_
      refine Wk.bipush (n := 8) (q := 7) (by decide +kernel) (by decide +kernel) rfl ?_
      refine Wk.icmp_ge (off := (31)) (t := 38) (q := 10) (by decide +kernel) (by decide) rfl (by first | omega | exact bi_rng _) (by first | omega | exact bi_rng _) (fun hc7 => ?_) (fun hc7 => ?_)
      · omega
      · refine Wk.iload_n (k := 3) (q := 11) (by decide +kernel) rfl rfl rfl ?_
        refine Wk.iload (i := 4) (q := 13) (by decide +kernel) rfl rfl ?_
        refine Wk.cSi (q := 16) l_Swing_43 m_Swing_blows (by decide +kernel) (fun _ h => h) (Nat.le_of_ble_eq_true rfl) (Nat.le_of_ble_eq_true rfl) rfl (c_Swing_blows (by omega) (by omega) (by omega) (by omega)) rfl ?_
        refine Wk.ifB_eq (off := (16)) (t := 32) (q := 19) (by decide +kernel) (by decide) rfl (fun hc16 => ?_) (fun hc16 => ?_)
        · refine Wk.iinc (i := 4) (n := 1) (q := 35) (by decide +kernel) rfl (by decide) rfl (fun _ h => h) rfl ?_
          refine Wk.goto (off := (-32)) (q := 3) (by decide +kernel) (by decide) ?_
          exact ih () (ext1 hJ (fun z2 z3 => by first | exact hc16 z2 | exact hc27 z3))
        · refine Wk.aload_n (k := 0) (q := 20) (by decide +kernel) rfl rfl rfl ?_
          refine Wk.iload_n (k := 1) (q := 21) (by decide +kernel) rfl rfl rfl ?_
          refine Wk.iload_n (k := 2) (q := 22) (by decide +kernel) rfl rfl rfl ?_
          refine Wk.iload (i := 4) (q := 24) (by decide +kernel) rfl rfl ?_
          refine Wk.cSi (q := 27) l_Swing_87 m_Swing_clashBy (by decide +kernel) (fun _ h => h) (Nat.le_of_ble_eq_true rfl) (Nat.le_of_ble_eq_true rfl) rfl (c_Swing_clashBy h0 h1 g0 g1 (by omega) (by omega) hC) rfl ?_
          refine Wk.ifB_eq (off := (5)) (t := 32) (q := 30) (by decide +kernel) (by decide) rfl (fun hc27 => ?_) (fun hc27 => ?_)
          · refine Wk.iinc (i := 4) (n := 1) (q := 35) (by decide +kernel) rfl (by decide) rfl (fun _ h => h) rfl ?_
            refine Wk.goto (off := (-32)) (q := 3) (by decide +kernel) (by decide) ?_
            exact ih () (ext1 hJ (fun z2 z3 => by first | exact hc16 z2 | exact hc27 z3))
          · refine Wk.iconst (n := 1) (q := 31) (by decide +kernel) rfl ?_
            exact Wk.rZ (by decide +kernel) rfl (by first | omega | decide | exact bi_01 _) (by rw [bi_t]; exact ⟨k, k0, k1, hc16, hc27⟩)
  refine Wk.iconst (n := 0) (q := 1) (by decide +kernel) rfl ?_
  refine Wk.istore (i := 4) (q := 3) (by decide +kernel) (by decide) rfl (fun _ h => h) rfl ?_
  exact key
theorem c_Swing_clashesOf {a F : Int} (h0 : 0 ≤ a) (h1 : a < I 1 4) (hF : 0 ≤ F ∧ F ≤ 255) (hC : CW I) : Wk xs x_Swing_clashesOf (d + 3) 0 0 0 [some (vr 1), some (vi a), some (vi F), none, none] [] X2 I L (pI (so (fun b => ¬ b = a ∧ cCL I F a b) (I 1 4).toNat) I L) := by
  have hA : 0 ≤ I 1 4 ∧ I 1 4 ≤ 5 := hC.1.2.2.2.2.1
  have key : Wk xs x_Swing_clashesOf (d + 3) 0 0 5 [some (vr 1), some (vi a), some (vi F), some (vi (so (fun b => ¬ b = a ∧ cCL I F a b) (0 : Int).toNat)), some (vi 0)] [] X2 I L (pI (so (fun b => ¬ b = a ∧ cCL I F a b) (I 1 4).toNat) I L) := by
    refine loopI (fun k => Wk xs x_Swing_clashesOf (d + 3) 0 0 5 [some (vr 1), some (vi a), some (vi F), some (vi (so (fun b => ¬ b = a ∧ cCL I F a b) k.toNat)), some (vi k)] [] X2 I L (pI (so (fun b => ¬ b = a ∧ cCL I F a b) (I 1 4).toNat) I L)) (I 1 4) 0 (by omega) ?_ ?_
    · refine Wk.iload (i := 4) (q := 7) (by decide +kernel) rfl rfl ?_
      refine Wk.aload_n (k := 0) (q := 8) (by decide +kernel) rfl rfl rfl ?_
      refine Wk.getI (z := 4) (q := 11) f_Swing_58 (by decide +kernel) O_1 (by decide) rfl rfl rfl ?_
      refine Wk.icmp_ge (off := (33)) (t := 44) (q := 14) (by decide +kernel) (by decide) rfl (by first | omega | exact bi_rng _) (by first | omega | exact bi_rng _) (fun hc11 => ?_) (fun hc11 => ?_)
      · refine Wk.iload_n (k := 3) (q := 45) (by decide +kernel) rfl rfl rfl ?_
        exact Wk.rI (by decide +kernel) rfl (rfl)
      · omega
    · intro k k0 k1 ih
      have hs := so_range (fun b => ¬ b = a ∧ cCL I F a b) k.toNat
      rw [so_step _ k0] at ih
      refine Wk.iload (i := 4) (q := 7) (by decide +kernel) rfl rfl ?_
      refine Wk.aload_n (k := 0) (q := 8) (by decide +kernel) rfl rfl rfl ?_
      refine Wk.getI (z := 4) (q := 11) f_Swing_58 (by decide +kernel) O_1 (by decide) rfl rfl rfl ?_
      refine Wk.icmp_ge (off := (33)) (t := 44) (q := 14) (by decide +kernel) (by decide) rfl (by first | omega | exact bi_rng _) (by first | omega | exact bi_rng _) (fun hc11 => ?_) (fun hc11 => ?_)
      · omega
      · refine Wk.iload (i := 4) (q := 16) (by decide +kernel) rfl rfl ?_
        refine Wk.iload_n (k := 1) (q := 17) (by decide +kernel) rfl rfl rfl ?_
        refine Wk.icmp_eq (off := (21)) (t := 38) (q := 20) (by decide +kernel) (by decide) rfl (by first | omega | exact bi_rng _) (by first | omega | exact bi_rng _) (fun hc17 => ?_) (fun hc17 => ?_)
        · refine Wk.iinc (i := 4) (n := 1) (q := 41) (by decide +kernel) rfl (by decide) rfl (fun _ h => h) rfl ?_
          refine Wk.goto (off := (-36)) (q := 5) (by decide +kernel) (by decide) ?_
          first | (rw [or_above hs.1 hs.2 k0 (by omega)]; rw [bi_t ⟨hc17, hc28⟩, Int.one_mul] at ih; exact ih) | (rw [bi_f (fun z => by first | exact z.1 hc17 | exact hc28 z.2), Int.zero_mul, Int.add_zero] at ih; exact ih)
        · refine Wk.aload_n (k := 0) (q := 21) (by decide +kernel) rfl rfl rfl ?_
          refine Wk.iload_n (k := 1) (q := 22) (by decide +kernel) rfl rfl rfl ?_
          refine Wk.iload (i := 4) (q := 24) (by decide +kernel) rfl rfl ?_
          refine Wk.iload_n (k := 2) (q := 25) (by decide +kernel) rfl rfl rfl ?_
          refine Wk.cSi (q := 28) l_Swing_91 m_Swing_clash (by decide +kernel) (fun _ h => h) (Nat.le_of_ble_eq_true rfl) (Nat.le_of_ble_eq_true rfl) rfl (c_Swing_clash h0 h1 (by omega) (by omega) hF hC) rfl ?_
          refine Wk.ifB_eq (off := (10)) (t := 38) (q := 31) (by decide +kernel) (by decide) rfl (fun hc28 => ?_) (fun hc28 => ?_)
          · refine Wk.iinc (i := 4) (n := 1) (q := 41) (by decide +kernel) rfl (by decide) rfl (fun _ h => h) rfl ?_
            refine Wk.goto (off := (-36)) (q := 5) (by decide +kernel) (by decide) ?_
            first | (rw [or_above hs.1 hs.2 k0 (by omega)]; rw [bi_t ⟨hc17, hc28⟩, Int.one_mul] at ih; exact ih) | (rw [bi_f (fun z => by first | exact z.1 hc17 | exact hc28 z.2), Int.zero_mul, Int.add_zero] at ih; exact ih)
          · refine Wk.iload_n (k := 3) (q := 32) (by decide +kernel) rfl rfl rfl ?_
            refine Wk.iconst (n := 1) (q := 33) (by decide +kernel) rfl ?_
            refine Wk.iload (i := 4) (q := 35) (by decide +kernel) rfl rfl ?_
            refine Wk.ishl (q := 36) (by decide +kernel) rfl ?_
            refine Wk.ior (q := 37) (by decide +kernel) rfl ?_
            refine Wk.istore_n (k := 3) (q := 38) (by decide +kernel) rfl (by decide) rfl (fun _ h => h) rfl ?_
            refine Wk.iinc (i := 4) (n := 1) (q := 41) (by decide +kernel) rfl (by decide) rfl (fun _ h => h) rfl ?_
            refine Wk.goto (off := (-36)) (q := 5) (by decide +kernel) (by decide) ?_
            first | (rw [or_above hs.1 hs.2 k0 (by omega)]; rw [bi_t ⟨hc17, hc28⟩, Int.one_mul] at ih; exact ih) | (rw [bi_f (fun z => by first | exact z.1 hc17 | exact hc28 z.2), Int.zero_mul, Int.add_zero] at ih; exact ih)
  refine Wk.iconst (n := 0) (q := 1) (by decide +kernel) rfl ?_
  refine Wk.istore_n (k := 3) (q := 2) (by decide +kernel) rfl (by decide) rfl (fun _ h => h) rfl ?_
  refine Wk.iconst (n := 0) (q := 3) (by decide +kernel) rfl ?_
  refine Wk.istore (i := 4) (q := 5) (by decide +kernel) (by decide) rfl (fun _ h => h) rfl ?_
  exact key
end SWG
