/-! BOTH OBJECTS ARE MADE -/
theorem sh2_1 {j : Nat} (hj : j < 7) : sh2 (1 + j) = shH 1 j := by
  have h : j = 0 ∨ j = 1 ∨ j = 2 ∨ j = 3 ∨ j = 4 ∨ j = 5 ∨ j = 6 := by omega
  rcases h with rfl | rfl | rfl | rfl | rfl | rfl | rfl
  · show (1, 12, r1) = (1, 12, rH 1)
    rw [rH_nest]; rfl
  all_goals rfl
theorem sh2_i {i j : Nat} (hi : i < 2) (hj : j < 7) : sh2 (132 + 8 * i + 1 + j) = shH (132 + 8 * i + 1) j := by
  have h1 : i = 0 ∨ i = 1 := by omega
  have h : j = 0 ∨ j = 1 ∨ j = 2 ∨ j = 3 ∨ j = 4 ∨ j = 5 ∨ j = 6 := by omega
  rcases h1 with rfl | rfl <;> rcases h with rfl | rfl | rfl | rfl | rfl | rfl | rfl <;> rfl
theorem sh2_i0 {i : Nat} (hi : i < 2) : sh2 (132 + 8 * i) = (3, 3, fun k => if k = 0 then some (132 + 8 * i + 1) else none) := by
  have h1 : i = 0 ∨ i = 1 := by omega
  rcases h1 with rfl | rfl <;> rfl
/-- the row of images, n of them made -/
def GI (n : Nat) : Nat → SH := fun k => if k = 131 then (14, 2, fun j => if j < n then some (132 + 8 * j) else none) else sh2 k
theorem GI_9 (n : Nat) : GI n 131 = (14, 2, fun j => if j < n then some (132 + 8 * j) else none) := rfl
theorem GI_ne {n k : Nat} (h : ¬ k = 131) : GI n k = sh2 k := by unfold GI; rw [if_neg h]
section MKB
variable {xs : RO} {d : Nat} {I : IM} {L : LM}
theorem img_loop {I0 : IM} : ∀ (m n : Nat) (I : IM) (L : LM), n + m = 2 → (∀ k, k ≤ 131 → I k = I0 k) → (∀ j, j < n → I (132 + 8 * j) 2 = 0) → Wk xs x_Sw_init (d + 3) (8 * m) (104 * m) 58 [some (vr 0), some (vi n)] [] (132 + 8 * n, GI n) I L (fun v X' I' L' => X' = (148, sh2) ∧ v = none ∧ I' 0 5 = 0 ∧ (∀ k, 1 ≤ k → k ≤ 131 → I' k = I0 k) ∧ I' 132 2 = 0 ∧ I' 140 2 = 0) := by
  intro m
  induction m with
  | zero =>
    intro n I L hn hk hz
    obtain rfl : n = 2 := by omega
    refine Wk.ext (X' := (148, sh2)) rfl (fun k hk => ?_) ?_
    · show sh2 k = GI 2 k
      by_cases h : k = 131
      · rw [h, GI_9]; rfl
      · rw [GI_ne h]
    refine Wk.iload_n (k := 1) (q := 59) (by decide +kernel) rfl rfl rfl ?_
    refine Wk.iconst (n := 2) (q := 60) (by decide +kernel) rfl ?_
    refine Wk.icmp_ge (off := 22) (t := 82) (q := 63) (by decide +kernel) (by decide) rfl (by omega) (by omega) (fun hc => ?_) (fun hc => ?_)
    · refine Wk.aload_n (k := 0) (q := 83) (by decide +kernel) rfl rfl rfl ?_
      refine Wk.iconst (n := 0) (q := 84) (by decide +kernel) rfl ?_
      refine Wk.putI (z := 5) (n := 6) (q := 87) f_Sw_44 fw_Sw_5 (by decide +kernel) ⟨by show 0 < 148; decide, rfl, rfl, by decide⟩ (by decide) rfl rfl ⟨rfl, rfl⟩ rfl ?_
      refine Wk.vret (by decide +kernel) rfl ⟨rfl, rfl, iup_at _ _ _ _, fun k k0 k1 => ?_, ?_, ?_⟩
      · rw [iup_other (by omega)]; exact hk k k1
      · rw [iup_other (by decide)]; exact hz 0 (by decide)
      · rw [iup_other (by decide)]; exact hz 1 (by decide)
    · omega
  | succ m ih =>
    intro n I L hn hk hz
    refine Wk.iload_n (k := 1) (q := 59) (by decide +kernel) rfl rfl rfl ?_
    refine Wk.iconst (n := 2) (q := 60) (by decide +kernel) rfl ?_
    refine Wk.icmp_ge (off := 22) (t := 82) (q := 63) (by decide +kernel) (by decide) rfl (by omega) (by omega) (fun hc => ?_) (fun hc => ?_)
    · omega
    · refine Wk.aload_n (k := 0) (q := 64) (by decide +kernel) rfl rfl rfl ?_
      refine Wk.getR (r := 131) (n := 6) (q := 67) f_Sw_39 (by decide +kernel) ⟨by show 0 < 132 + 8 * n; omega, rfl, rfl, by decide⟩ (by decide) rfl rfl rfl ?_
      refine Wk.iload_n (k := 1) (q := 68) (by decide +kernel) rfl rfl rfl ?_
      have e1 : 8 * (m + 1) = (7 + 8 * m) + 1 := by omega
      have e2 : 104 * (m + 1) = (101 + 104 * m) + 3 := by omega
      rw [e1, e2]
      refine Wk.mkO (F := GI n) (m := 132 + 8 * n) (q := 71) c_Sw_37 n_Imag ck_Imag df_Imag (by decide +kernel) (by omega) rfl ?_
      refine Wk.dup (q := 72) (by decide +kernel) rfl rfl ?_
      refine Wk.callI (mc := 7) (ms := 101) (bc := 8 * m) (bs := 104 * m) (q := 75) l_Sw_43 m_Imag_init rfl (by decide +kernel) (fun _ h => h) (Nat.le_of_ble_eq_true rfl) (Nat.le_of_ble_eq_true rfl) rfl (c_Imag_init (by omega) ((GI_ne (by omega)).trans (sh2_i0 (by omega))) (fun j hj => (GI_ne (by omega)).trans (sh2_i (by omega) hj))) (fun v X' I' L' h => by rw [h.1]; rfl) rfl (fun v X' I' L' h => ?_)
      obtain ⟨rfl, rfl, hk2⟩ := h
      refine Wk.aastore (id := 131) (tg := 14) (ci := 3) (n := 3) (N := 2) (q := 76) (by decide +kernel) ⟨by show 131 < 132 + 8 * n + 8; omega, rfl⟩ (by decide) (Or.inr ⟨rfl, rfl⟩) ⟨by show 132 + 8 * n < 132 + 8 * n + 8; omega, ?_, ?_, by decide⟩ (by omega) (by omega) rfl ?_
      · show (GI n (132 + 8 * n)).1 = 3
        rw [GI_ne (by omega), sh2_i0 (by omega)]
      · show (GI n (132 + 8 * n)).2.1 = 3
        rw [GI_ne (by omega), sh2_i0 (by omega)]
      refine Wk.iinc (i := 1) (n := 1) (q := 79) (by decide +kernel) rfl (by decide) rfl (fun _ h => h) rfl ?_
      refine Wk.goto (off := (-21)) (q := 58) (by decide +kernel) (by decide) ?_
      refine Wk.ext (X' := (132 + 8 * (n + 1), GI (n + 1))) (by show 132 + 8 * (n + 1) = 132 + 8 * n + 8; omega) (fun k hk => ?_) ?_
      · show GI (n + 1) k = (if k = 131 then _ else GI n k)
        by_cases h : k = 131
        · rw [if_pos h, h, GI_9]
          refine congrArg (fun f => (14, 2, f)) (funext fun j => ?_)
          show (if j < n + 1 then some (132 + 8 * j) else none) = (if j = ((n : Int)).toNat then some (132 + 8 * n) else (if j < n then some (132 + 8 * j) else none))
          by_cases q : j = n
          · rw [if_pos (by omega), if_pos (by omega), q]
          · rw [if_neg (show ¬ j = ((n : Int)).toNat by omega)]
            by_cases q2 : j < n
            · rw [if_pos (by omega), if_pos q2]
            · rw [if_neg (by omega), if_neg q2]
        · rw [if_neg h, GI_ne h, GI_ne h]
      refine ih (n + 1) I' L' (by omega) (fun k hk3 => by rw [hk2 k (by omega), iz_ne (by omega)]; exact hk k hk3) (fun j hj => ?_)
      rw [hk2 _ (by omega)]
      by_cases q : j = n
      · rw [q, iz_at]
      · rw [iz_ne (by omega)]; exact hz j (by omega)
theorem c_Sw_init : Wk xs x_Sw_init (d + 3) 147 2083 0 [some (vr 0), none] [] (OX sh2 0 5 6 (fun _ => none) 1) I L (fun v X' I' L' => X' = (148, sh2) ∧ v = none ∧ I' 0 5 = 0 ∧ H6 I' 1 ∧ (I' 8 1 = 0 ∧ I' 8 2 = 0) ∧ I' 128 2 = 0 ∧ I' 132 2 = 0 ∧ I' 140 2 = 0) := by
  refine Wk.aload_n (k := 0) (q := 1) (by decide +kernel) rfl rfl rfl ?_
  refine Wk.objInit (q := 4) o_Sw_3 (by decide +kernel) (Nat.le_of_ble_eq_true rfl) rfl ?_
  refine Wk.aload_n (k := 0) (q := 5) (by decide +kernel) rfl rfl rfl ?_
  refine Wk.mkO (m := 1) (bc := 146) (bs := 2071) (q := 8) c_Sw_9 n_Harb ck_Harb df_Harb (by decide +kernel) (by omega) rfl ?_
  refine Wk.dup (q := 9) (by decide +kernel) rfl rfl ?_
  refine Wk.callI (mc := 6) (ms := 89) (bc := 140) (bs := 1982) (q := 12) l_Sw_11 m_Harb_init rfl (by decide +kernel) (fun _ h => h) (Nat.le_of_ble_eq_true rfl) (Nat.le_of_ble_eq_true rfl) rfl (c_Harb_init (by omega) (fun j hj => (if_neg (by omega)).trans (sh2_1 hj))) (fun v X' I' L' h => by rw [h.1]; rfl) rfl (fun v X' J0 L' h => ?_)
  obtain ⟨rfl, rfl, hk0, hH⟩ := h
  refine Wk.pf (F := sh2) (o := 0) (m := 8) (q := 15) f_Sw_12 fw_Sw_0 rfl own_Sw (by decide +kernel) (by omega) (by decide) (by decide) rfl (fun _ => ⟨rfl, rfl⟩) rfl ?_
  refine Wk.aload_n (k := 0) (q := 16) (by decide +kernel) rfl rfl rfl ?_
  refine Wk.mkO (m := 8) (bc := 139) (bs := 1979) (q := 19) c_Sw_16 n_Hist ck_Hist df_Hist (by decide +kernel) (by omega) rfl ?_
  refine Wk.dup (q := 20) (by decide +kernel) rfl rfl ?_
  refine Wk.callI (mc := 113) (ms := 1632) (bc := 26) (bs := 347) (q := 23) l_Sw_18 m_Hist_init rfl (by decide +kernel) (fun _ h => h) (Nat.le_of_ble_eq_true rfl) (Nat.le_of_ble_eq_true rfl) rfl (c_Hist_init (fun k k0 k1 => if_neg (by omega))) (fun v X' I' L' h => by rw [h.1]; rfl) rfl (fun v X' J1 L' h => ?_)
  obtain ⟨rfl, rfl, hk1⟩ := h
  refine Wk.pf (F := sh2) (o := 0) (m := 122) (q := 26) f_Sw_19 fw_Sw_1 rfl own_Sw (by decide +kernel) (by omega) (by decide) (by decide) rfl (fun _ => ⟨rfl, rfl⟩) rfl ?_
  refine Wk.aload_n (k := 0) (q := 27) (by decide +kernel) rfl rfl rfl ?_
  refine Wk.mkO (m := 122) (bc := 25) (bs := 340) (q := 30) c_Sw_23 n_Sear ck_Sear df_Sear (by decide +kernel) (by omega) rfl ?_
  refine Wk.dup (q := 31) (by decide +kernel) rfl rfl ?_
  refine Wk.callI (mc := 5) (ms := 87) (bc := 20) (bs := 253) (q := 34) l_Sw_25 m_Sear_init rfl (by decide +kernel) (fun _ h => h) (Nat.le_of_ble_eq_true rfl) (Nat.le_of_ble_eq_true rfl) rfl (c_Sear_init (fun k k0 k1 => if_neg (by omega))) (fun v X' I' L' h => by rw [h.1]; rfl) rfl (fun v X' J2 L' h => ?_)
  obtain ⟨rfl, rfl, hk2⟩ := h
  refine Wk.pf (F := sh2) (o := 0) (m := 128) (q := 37) f_Sw_26 fw_Sw_2 rfl own_Sw (by decide +kernel) (by omega) (by decide) (by decide) rfl (fun _ => ⟨rfl, rfl⟩) rfl ?_
  refine Wk.aload_n (k := 0) (q := 38) (by decide +kernel) rfl rfl rfl ?_
  refine Wk.mkO (m := 128) (bc := 19) (bs := 250) (q := 41) c_Sw_30 n_Book ck_Book df_Book (by decide +kernel) (by omega) rfl ?_
  refine Wk.dup (q := 42) (by decide +kernel) rfl rfl ?_
  refine Wk.callI (mc := 2) (ms := 40) (bc := 17) (bs := 210) (q := 45) l_Sw_32 m_Book_init rfl (by decide +kernel) (fun _ h => h) (Nat.le_of_ble_eq_true rfl) (Nat.le_of_ble_eq_true rfl) rfl (c_Book_init (fun k k0 k1 => if_neg (by omega))) (fun v X' I' L' h => by rw [h.1]; rfl) rfl (fun v X' J3 L' h => ?_)
  obtain ⟨rfl, rfl, hk3⟩ := h
  refine Wk.pf (F := sh2) (o := 0) (m := 131) (q := 48) f_Sw_33 fw_Sw_3 rfl own_Sw (by decide +kernel) (by omega) (by decide) (by decide) rfl (fun _ => ⟨rfl, rfl⟩) rfl ?_
  refine Wk.aload_n (k := 0) (q := 49) (by decide +kernel) rfl rfl rfl ?_
  refine Wk.iconst (n := 2) (q := 50) (by decide +kernel) rfl ?_
  refine Wk.newQ (N := 2) (tg := 14) (bc := 16) (bs := 208) (q := 53) c_Sw_37 (Or.inr ⟨rfl, rfl⟩) rfl (by decide) (by decide +kernel) (by show 131 + 1 < 1000000; decide) rfl ?_
  refine Wk.ext (X' := OX (GI 0) 0 5 6 (fun j => if j = 3 then some 128 else if j = 2 then some 122 else if j = 1 then some 8 else if j = 0 then some 1 else none) 132) rfl (fun k hk => ?_) ?_
  · show (if k = 0 then _ else GI 0 k) = (if k = 131 then _ else (if k = 0 then _ else sh2 k))
    by_cases h : k = 131
    · rw [if_neg (by omega), if_pos h, h, GI_9]; rfl
    · rw [if_neg h, GI_ne h]
  refine Wk.pf (F := GI 0) (o := 0) (m := 132) (q := 56) f_Sw_39 fw_Sw_4 rfl own_Sw (by decide +kernel) (by omega) (by decide) (by decide) rfl (fun _ => ⟨rfl, rfl⟩) rfl ?_
  refine Wk.ext (X' := (132 + 8 * 0, GI 0)) rfl (fun k hk => ?_) ?_
  · show GI 0 k = (if k = 0 then _ else GI 0 k)
    by_cases h : k = 0
    · rw [if_pos h, h, GI_ne (by decide)]; rfl
    · rw [if_neg h]
  refine Wk.iconst (n := 0) (q := 57) (by decide +kernel) rfl ?_
  refine Wk.istore_n (k := 1) (q := 58) (by decide +kernel) rfl (by decide) rfl (fun _ h => h) rfl ?_
  refine Wk.weak (img_loop 2 0 J3 _ rfl (fun _ _ => rfl) (fun j hj => by omega)) (fun v X' I' L' h => ?_)
  obtain ⟨h1, h2, h3, h4, h5, h6⟩ := h
  have a : ∀ k, 1 ≤ k → k ≤ 7 → I' k = J0 k := fun k k0 k1 => by rw [h4 k k0 (by omega), hk3 k (by omega), iz_ne (by omega), hk2 k (by omega), iz_ne (by omega), hk1 k (by omega), iz_ne (by omega)]
  have b : ∀ b, I' 8 b = 0 := fun b => by rw [h4 8 (by omega) (by omega), hk3 8 (by omega), iz_ne (by omega), hk2 8 (by omega), iz_ne (by omega), hk1 8 (by omega), iz_at]
  refine ⟨h1, h2, h3, ?_, ⟨b 1, b 2⟩, ?_, h5, h6⟩
  · unfold H6 at hH ⊢
    rw [a 1 (by omega) (by omega), a (1 + 1) (by omega) (by omega)]
    exact hH
  · rw [h4 128 (by omega) (by omega), hk3 128 (by omega), iz_at]
theorem c_Mod_init : Wk xs x_Mod_init (d + 1) 7 1905 0 [some (vr 148)] [] (OX sh2 148 6 12 (fun _ => none) 149) I L (fun v X' I' L' => X' = X2 ∧ v = none ∧ (∀ k, k ≤ 148 → I' k = I k) ∧ (I' 149 0 = 6 ∧ I' 149 1 = 6 ∧ I' 149 2 = 0 ∧ I' 149 3 = 255 ∧ I' 149 4 = 0 ∧ I' 149 5 = 0) ∧ ∀ b, 6 ≤ b → b < 55 → I' 149 b = 5) := by
  refine Wk.aload_n (k := 0) (q := 1) (by decide +kernel) rfl rfl rfl ?_
  refine Wk.objInit (q := 4) o_Mod_1 (by decide +kernel) (Nat.le_of_ble_eq_true rfl) rfl ?_
  refine Wk.aload_n (k := 0) (q := 5) (by decide +kernel) rfl rfl rfl ?_
  refine Wk.sipush (n := 1710) (q := 8) (by decide +kernel) (by decide +kernel) rfl ?_
  refine Wk.mkI (N := 1710) (bc := 6) (bs := 195) (q := 13) rfl (by decide) (by decide +kernel) (by omega) rfl f_Mod_7 fw_Mod_0 rfl own_Mod (by decide +kernel) (by omega) (by decide) (by decide) rfl (fun _ => ⟨rfl, rfl⟩) rfl ?_
  refine Wk.aload_n (k := 0) (q := 14) (by decide +kernel) rfl rfl rfl ?_
  refine Wk.iconst (n := 2) (q := 15) (by decide +kernel) rfl ?_
  refine Wk.mkI (N := 2) (bc := 5) (bs := 193) (q := 20) rfl (by decide) (by decide +kernel) (by omega) rfl f_Mod_13 fw_Mod_4 rfl own_Mod (by decide +kernel) (by omega) (by decide) (by decide) rfl (fun _ => ⟨rfl, rfl⟩) rfl ?_
  refine Wk.aload_n (k := 0) (q := 21) (by decide +kernel) rfl rfl rfl ?_
  refine Wk.bipush (n := 20) (q := 23) (by decide +kernel) (by decide +kernel) rfl ?_
  refine Wk.mkI (N := 20) (bc := 4) (bs := 173) (q := 28) rfl (by decide) (by decide +kernel) (by omega) rfl f_Mod_16 fw_Mod_5 rfl own_Mod (by decide +kernel) (by omega) (by decide) (by decide) rfl (fun _ => ⟨rfl, rfl⟩) rfl ?_
  refine Wk.aload_n (k := 0) (q := 29) (by decide +kernel) rfl rfl rfl ?_
  refine Wk.bipush (n := 20) (q := 31) (by decide +kernel) (by decide +kernel) rfl ?_
  refine Wk.mkI (N := 20) (bc := 3) (bs := 153) (q := 36) rfl (by decide) (by decide +kernel) (by omega) rfl f_Mod_19 fw_Mod_6 rfl own_Mod (by decide +kernel) (by omega) (by decide) (by decide) rfl (fun _ => ⟨rfl, rfl⟩) rfl ?_
  refine Wk.aload_n (k := 0) (q := 37) (by decide +kernel) rfl rfl rfl ?_
  refine Wk.iconst (n := 3) (q := 38) (by decide +kernel) rfl ?_
  refine Wk.mkI (N := 3) (bc := 2) (bs := 150) (q := 43) rfl (by decide) (by decide +kernel) (by omega) rfl f_Mod_22 fw_Mod_8 rfl own_Mod (by decide +kernel) (by omega) (by decide) (by decide) rfl (fun _ => ⟨rfl, rfl⟩) rfl ?_
  refine Wk.aload_n (k := 0) (q := 44) (by decide +kernel) rfl rfl rfl ?_
  refine Wk.iconst (n := 3) (q := 45) (by decide +kernel) rfl ?_
  refine Wk.mkI (N := 3) (bc := 1) (bs := 147) (q := 50) rfl (by decide) (by decide +kernel) (by omega) rfl f_Mod_25 fw_Mod_9 rfl own_Mod (by decide +kernel) (by omega) (by decide) (by decide) rfl (fun _ => ⟨rfl, rfl⟩) rfl ?_
  refine Wk.aload_n (k := 0) (q := 51) (by decide +kernel) rfl rfl rfl ?_
  refine Wk.sipush (n := 147) (q := 54) (by decide +kernel) (by decide +kernel) rfl ?_
  refine Wk.mkZ (N := 147) (bc := 0) (bs := 0) (q := 59) rfl (by decide) (by decide +kernel) (by omega) rfl f_Mod_28 fw_Mod_10 rfl own_Mod (by decide +kernel) (by omega) (by decide) (by decide) rfl (fun _ => ⟨rfl, rfl⟩) rfl ?_
  refine Wk.ext (X' := X2) rfl (fun k hk => ?_) ?_
  · show sh2 k = (if k = 148 then _ else sh2 k)
    by_cases h : k = 148
    · rw [if_pos h, h]; rfl
    · rw [if_neg h]
  refine Wk.aload_n (k := 0) (q := 60) (by decide +kernel) rfl rfl rfl ?_
  refine Wk.getR (r := 149) (q := 63) f_Mod_7 (by decide +kernel) O_148 (by decide) rfl rfl rfl ?_
  refine Wk.iconst (n := 3) (q := 64) (by decide +kernel) rfl ?_
  refine Wk.sipush (n := 255) (q := 67) (by decide +kernel) (by decide +kernel) rfl ?_
  refine Wk.iastore (q := 68) (by decide +kernel) A_149 (by omega) (by omega) rfl ?_
  refine Wk.aload_n (k := 0) (q := 69) (by decide +kernel) rfl rfl rfl ?_
  refine Wk.bipush (n := 6) (q := 71) (by decide +kernel) (by decide +kernel) rfl ?_
  refine Wk.bipush (n := 6) (q := 73) (by decide +kernel) (by decide +kernel) rfl ?_
  refine Wk.cV (q := 76) l_Mod_32 m_Mod_begin (by decide +kernel) (fun _ h => h) O_148 rfl (Nat.le_of_ble_eq_true rfl) (Nat.le_of_ble_eq_true rfl) rfl (c_Mod_begin) rfl (fun v I' L' h => ?_)
  obtain ⟨rfl, ⟨he, ⟨p0, p1, p4, p5⟩, pd, pb⟩, rfl⟩ := h
  refine Wk.vret (by decide +kernel) rfl ⟨rfl, rfl, fun k hk => ?_, ⟨p0, p1, ?_, ?_, p4, p5⟩, pd⟩
  · rw [he k (by omega), iup_other (by omega), iz_ne (by omega), iz_ne (by omega), iz_ne (by omega), iz_ne (by omega), iz_ne (by omega), iz_ne (by omega), iz_ne (by omega)]
  · rw [pb 2 (by decide) (by decide) (by decide) (by decide) (by decide), iup_ne (by omega), iz_ne (by decide), iz_ne (by decide), iz_ne (by decide), iz_ne (by decide), iz_ne (by decide), iz_ne (by decide), iz_at]
  · rw [pb 3 (by decide) (by decide) (by decide) (by decide) (by decide), iup_at]
end MKB
