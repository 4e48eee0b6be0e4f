/-! THE HISTORY, THE SEARCH, THE BOOK ARE MADE -/
theorem sh2_h {i j : Nat} (hi : i < 16) (hj : j < 7) : sh2 (10 + 7 * i + j) = shH (10 + 7 * i) j := by
  unfold sh2
  rw [if_neg (by omega), if_neg (by omega), if_neg (by omega), if_neg (by omega), if_neg (by omega), if_neg (by omega), if_neg (by omega), if_neg (by omega), if_pos (by omega)]
  rw [show (10 + 7 * i + j - 10) / 7 = i by omega, show (10 + 7 * i + j - 10) % 7 = j by omega]
/-- the row of harbours, n of them made -/
def GH (F : Nat → SH) (n : Nat) : Nat → SH := fun k => if k = 9 then (13, 16, fun j => if j < n then some (10 + 7 * j) else none) else F k
theorem GH_9 (F : Nat → SH) (n : Nat) : GH F n 9 = (13, 16, fun j => if j < n then some (10 + 7 * j) else none) := rfl
theorem GH_ne {F : Nat → SH} {n k : Nat} (h : ¬ k = 9) : GH F n k = F k := by unfold GH; rw [if_neg h]
section MKS
variable {xs : RO} {d : Nat} {I : IM} {L : LM}
theorem hist_loop {F : Nat → SH} {I0 : IM} (hF : ∀ k, 8 ≤ k → k < 122 → F k = sh2 k) : ∀ (m n : Nat) (I : IM) (L : LM), n + m = 16 → (∀ k, k ≤ 8 → I k = I0 k) → Wk xs x_Hist_init (d + 2) (7 * m) (101 * m) 15 [some (vr 8), some (vi n)] [] (10 + 7 * n, GH F n) I L (fun v X' I' L' => X' = (122, F) ∧ v = none ∧ ∀ k, k ≤ 8 → I' k = I0 k) := by
  intro m
  induction m with
  | zero =>
    intro n I L hn hk
    obtain rfl : n = 16 := by omega
    refine Wk.ext (X' := (122, F)) rfl (fun k hk => ?_) ?_
    · show F k = GH F 16 k
      by_cases h : k = 9
      · rw [h, GH_9, hF 9 (by omega) (by omega)]; rfl
      · rw [GH_ne h]
    refine Wk.iload_n (k := 1) (q := 16) (by decide +kernel) rfl rfl rfl ?_
    refine Wk.bipush (n := 16) (q := 18) (by decide +kernel) (by decide +kernel) rfl ?_
    refine Wk.icmp_ge (off := 22) (t := 40) (q := 21) (by decide +kernel) (by decide) rfl (by omega) (by omega) (fun hc => ?_) (fun hc => ?_)
    · exact Wk.vret (by decide +kernel) rfl ⟨rfl, rfl, hk⟩
    · omega
  | succ m ih =>
    intro n I L hn hk
    have h8 : F 8 = (2, 3, fun k => if k = 0 then some 9 else none) := hF 8 (by omega) (by omega)
    refine Wk.iload_n (k := 1) (q := 16) (by decide +kernel) rfl rfl rfl ?_
    refine Wk.bipush (n := 16) (q := 18) (by decide +kernel) (by decide +kernel) rfl ?_
    refine Wk.icmp_ge (off := 22) (t := 40) (q := 21) (by decide +kernel) (by decide) rfl (by omega) (by omega) (fun hc => ?_) (fun hc => ?_)
    · omega
    · refine Wk.aload_n (k := 0) (q := 22) (by decide +kernel) rfl rfl rfl ?_
      refine Wk.getR (r := 9) (n := 3) (q := 25) f_Hist_11 (by decide +kernel) ⟨by show 8 < 10 + 7 * n; omega, by show (GH F n 8).1 = 2; rw [GH_ne (by decide), h8], by show (GH F n 8).2.1 = 3; rw [GH_ne (by decide), h8], by decide⟩ (by decide) rfl (by show (GH F n 8).2.2 0 = some 9; rw [GH_ne (by decide), h8]; rfl) rfl ?_
      refine Wk.iload_n (k := 1) (q := 26) (by decide +kernel) rfl rfl rfl ?_
      have e1 : 7 * (m + 1) = (6 + 7 * m) + 1 := by omega
      have e2 : 101 * (m + 1) = (89 + 101 * m) + 12 := by omega
      rw [e1, e2]
      refine Wk.mkO (F := GH F n) (m := 10 + 7 * n) (q := 29) c_Hist_9 n_Harb ck_Harb df_Harb (by decide +kernel) (by omega) rfl ?_
      refine Wk.dup (q := 30) (by decide +kernel) rfl rfl ?_
      refine Wk.callI (mc := 6) (ms := 89) (bc := 7 * m) (bs := 101 * m) (q := 33) l_Hist_17 m_Harb_init rfl (by decide +kernel) (fun _ h => h) (Nat.le_of_ble_eq_true rfl) (Nat.le_of_ble_eq_true rfl) rfl (c_Harb_init (by omega) (fun j hj => (GH_ne (by omega)).trans ((hF _ (by omega) (by omega)).trans (sh2_h (by omega) hj)))) (fun v X' I' L' h => by rw [h.1]; rfl) rfl (fun v X' I' L' h => ?_)
      obtain ⟨rfl, rfl, hk2, -⟩ := h
      refine Wk.aastore (id := 9) (tg := 13) (ci := 1) (n := 12) (N := 16) (q := 34) (by decide +kernel) ⟨by show 9 < 10 + 7 * n + 7; omega, rfl⟩ (by decide) (Or.inl ⟨rfl, rfl⟩) ⟨by show 10 + 7 * n < 10 + 7 * n + 7; omega, ?_, ?_, by decide⟩ (by omega) (by omega) rfl ?_
      · show (GH F n (10 + 7 * n)).1 = 1
        rw [GH_ne (by omega), hF _ (by omega) (by omega), show 10 + 7 * n = 10 + 7 * n + 0 from rfl, sh2_h (by omega) (by omega)]; rfl
      · show (GH F n (10 + 7 * n)).2.1 = 12
        rw [GH_ne (by omega), hF _ (by omega) (by omega), show 10 + 7 * n = 10 + 7 * n + 0 from rfl, sh2_h (by omega) (by omega)]; rfl
      refine Wk.iinc (i := 1) (n := 1) (q := 37) (by decide +kernel) rfl (by decide) rfl (fun _ h => h) rfl ?_
      refine Wk.goto (off := (-22)) (q := 15) (by decide +kernel) (by decide) ?_
      refine Wk.ext (X' := (10 + 7 * (n + 1), GH F (n + 1))) (by show 10 + 7 * (n + 1) = 10 + 7 * n + 7; omega) (fun k hk => ?_) ?_
      · show GH F (n + 1) k = (if k = 9 then _ else GH F n k)
        by_cases h : k = 9
        · rw [if_pos h, h, GH_9]
          refine congrArg (fun f => (13, 16, f)) (funext fun j => ?_)
          show (if j < n + 1 then some (10 + 7 * j) else none) = (if j = ((n : Int)).toNat then some (10 + 7 * n) else (if j < n then some (10 + 7 * j) else none))
          by_cases q : j = n
          · rw [if_pos (by omega), if_pos (by omega), q]
          · rw [if_neg (show ¬ j = ((n : Int)).toNat by omega)]
            by_cases q2 : j < n
            · rw [if_pos (by omega), if_pos q2]
            · rw [if_neg (by omega), if_neg q2]
        · rw [if_neg h, GH_ne h, GH_ne h]
      exact ih (n + 1) I' L' (by omega) (fun k hk3 => by rw [hk2 k (by omega), iz_ne (by omega)]; exact hk k hk3)
theorem c_Hist_init {F : Nat → SH} (hF : ∀ k, 8 ≤ k → k < 122 → F k = sh2 k) : Wk xs x_Hist_init (d + 2) 113 1632 0 [some (vr 8), none] [] (OX F 8 2 3 (fun _ => none) 9) I L (fun v X' I' L' => X' = (122, F) ∧ v = none ∧ ∀ k, k ≤ 8 → I' k = I k) := by
  refine Wk.aload_n (k := 0) (q := 1) (by decide +kernel) rfl rfl rfl ?_
  refine Wk.objInit (q := 4) o_Hist_3 (by decide +kernel) (Nat.le_of_ble_eq_true rfl) rfl ?_
  refine Wk.aload_n (k := 0) (q := 5) (by decide +kernel) rfl rfl rfl ?_
  refine Wk.bipush (n := 16) (q := 7) (by decide +kernel) (by decide +kernel) rfl ?_
  refine Wk.newQ (N := 16) (tg := 13) (bc := 112) (bs := 1616) (q := 10) c_Hist_9 (Or.inl ⟨rfl, rfl⟩) rfl (by decide) (by decide +kernel) (by show 9 + 1 < 1000000; decide) rfl ?_
  refine Wk.ext (X' := OX (GH F 0) 8 2 3 (fun _ => none) 10) rfl (fun k hk => ?_) ?_
  · show (if k = 8 then _ else GH F 0 k) = (if k = 9 then _ else (if k = 8 then _ else F k))
    by_cases h : k = 9
    · rw [if_neg (by omega), if_pos h, h, GH_9]; rfl
    · rw [if_neg h, GH_ne h]
  refine Wk.pf (F := GH F 0) (o := 8) (m := 10) (q := 13) f_Hist_11 fw_Hist_0 rfl own_Hist (by decide +kernel) (by omega) (by decide) (by decide) rfl (fun _ => ⟨rfl, rfl⟩) rfl ?_
  refine Wk.ext (X' := (10 + 7 * 0, GH F 0)) rfl (fun k hk => ?_) ?_
  · show GH F 0 k = (if k = 8 then _ else GH F 0 k)
    by_cases h : k = 8
    · rw [if_pos h, h, GH_ne (by decide), hF 8 (by omega) (by omega)]; rfl
    · rw [if_neg h]
  refine Wk.iconst (n := 0) (q := 14) (by decide +kernel) rfl ?_
  refine Wk.istore_n (k := 1) (q := 15) (by decide +kernel) rfl (by decide) rfl (fun _ h => h) rfl ?_
  exact hist_loop hF 16 0 I L rfl (fun _ _ => rfl)
theorem c_Sear_init {F : Nat → SH} (hF : ∀ k, 122 ≤ k → k < 128 → F k = sh2 k) : Wk xs x_Sear_init (d + 1) 5 87 0 [some (vr 122)] [] (OX F 122 4 7 (fun _ => none) 123) I L (fun v X' I' L' => X' = (128, F) ∧ v = none ∧ ∀ k, k ≤ 122 → I' k = I k) := by
  refine Wk.aload_n (k := 0) (q := 1) (by decide +kernel) rfl rfl rfl ?_
  refine Wk.objInit (q := 4) o_Sear_3 (by decide +kernel) (Nat.le_of_ble_eq_true rfl) rfl ?_
  refine Wk.aload_n (k := 0) (q := 5) (by decide +kernel) rfl rfl rfl ?_
  refine Wk.iconst (n := 3) (q := 6) (by decide +kernel) rfl ?_
  refine Wk.mkI (N := 3) (bc := 4) (bs := 84) (q := 11) rfl (by decide) (by decide +kernel) (by omega) (hF 123 (by decide) (by decide)) f_Sear_11 fw_Sear_0 rfl own_Sear (by decide +kernel) (by omega) (by decide) (by decide) rfl (fun _ => ⟨rfl, rfl⟩) rfl ?_
  refine Wk.aload_n (k := 0) (q := 12) (by decide +kernel) rfl rfl rfl ?_
  refine Wk.iconst (n := 3) (q := 13) (by decide +kernel) rfl ?_
  refine Wk.mkI (N := 3) (bc := 3) (bs := 81) (q := 18) rfl (by decide) (by decide +kernel) (by omega) (hF 124 (by decide) (by decide)) f_Sear_15 fw_Sear_1 rfl own_Sear (by decide +kernel) (by omega) (by decide) (by decide) rfl (fun _ => ⟨rfl, rfl⟩) rfl ?_
  refine Wk.aload_n (k := 0) (q := 19) (by decide +kernel) rfl rfl rfl ?_
  refine Wk.bipush (n := 8) (q := 21) (by decide +kernel) (by decide +kernel) rfl ?_
  refine Wk.mkL (N := 8) (bc := 2) (bs := 73) (q := 26) rfl (by decide) (by decide +kernel) (by omega) (hF 125 (by decide) (by decide)) f_Sear_18 fw_Sear_4 rfl own_Sear (by decide +kernel) (by omega) (by decide) (by decide) rfl (fun _ => ⟨rfl, rfl⟩) rfl ?_
  refine Wk.aload_n (k := 0) (q := 27) (by decide +kernel) rfl rfl rfl ?_
  refine Wk.bipush (n := 64) (q := 29) (by decide +kernel) (by decide +kernel) rfl ?_
  refine Wk.mkL (N := 64) (bc := 1) (bs := 9) (q := 34) rfl (by decide) (by decide +kernel) (by omega) (hF 126 (by decide) (by decide)) f_Sear_22 fw_Sear_5 rfl own_Sear (by decide +kernel) (by omega) (by decide) (by decide) rfl (fun _ => ⟨rfl, rfl⟩) rfl ?_
  refine Wk.aload_n (k := 0) (q := 35) (by decide +kernel) rfl rfl rfl ?_
  refine Wk.bipush (n := 9) (q := 37) (by decide +kernel) (by decide +kernel) rfl ?_
  refine Wk.mkL (N := 9) (bc := 0) (bs := 0) (q := 42) rfl (by decide) (by decide +kernel) (by omega) (hF 127 (by decide) (by decide)) f_Sear_25 fw_Sear_6 rfl own_Sear (by decide +kernel) (by omega) (by decide) (by decide) rfl (fun _ => ⟨rfl, rfl⟩) rfl ?_
  refine Wk.ext (X' := (128, F)) rfl (fun k hk => ?_) ?_
  · show F k = (if k = 122 then _ else F k)
    by_cases h : k = 122
    · rw [if_pos h, h, hF 122 (by omega) (by omega)]; rfl
    · rw [if_neg h]
  refine Wk.vret (by decide +kernel) rfl ⟨rfl, rfl, fun k hk => ?_⟩
  rw [iz_ne (by omega), iz_ne (by omega)]
theorem c_Book_init {F : Nat → SH} (hF : ∀ k, 128 ≤ k → k < 131 → F k = sh2 k) : Wk xs x_Book_init (d + 1) 2 40 0 [some (vr 128)] [] (OX F 128 0 3 (fun _ => none) 129) I L (fun v X' I' L' => X' = (131, F) ∧ v = none ∧ ∀ k, k ≤ 128 → I' k = I k) := by
  refine Wk.aload_n (k := 0) (q := 1) (by decide +kernel) rfl rfl rfl ?_
  refine Wk.objInit (q := 4) o_Book_3 (by decide +kernel) (Nat.le_of_ble_eq_true rfl) rfl ?_
  refine Wk.aload_n (k := 0) (q := 5) (by decide +kernel) rfl rfl rfl ?_
  refine Wk.bipush (n := 20) (q := 7) (by decide +kernel) (by decide +kernel) rfl ?_
  refine Wk.mkI (N := 20) (bc := 1) (bs := 20) (q := 12) rfl (by decide) (by decide +kernel) (by omega) (hF 129 (by decide) (by decide)) f_Book_9 fw_Book_0 rfl own_Book (by decide +kernel) (by omega) (by decide) (by decide) rfl (fun _ => ⟨rfl, rfl⟩) rfl ?_
  refine Wk.aload_n (k := 0) (q := 13) (by decide +kernel) rfl rfl rfl ?_
  refine Wk.bipush (n := 20) (q := 15) (by decide +kernel) (by decide +kernel) rfl ?_
  refine Wk.mkI (N := 20) (bc := 0) (bs := 0) (q := 20) rfl (by decide) (by decide +kernel) (by omega) (hF 130 (by decide) (by decide)) f_Book_15 fw_Book_1 rfl own_Book (by decide +kernel) (by omega) (by decide) (by decide) rfl (fun _ => ⟨rfl, rfl⟩) rfl ?_
  refine Wk.ext (X' := (131, F)) rfl (fun k hk => ?_) ?_
  · show F k = (if k = 128 then _ else F k)
    by_cases h : k = 128
    · rw [if_pos h, h, hF 128 (by omega) (by omega)]; rfl
    · rw [if_neg h]
  refine Wk.vret (by decide +kernel) rfl ⟨rfl, rfl, fun k hk => ?_⟩
  rw [iz_ne (by omega), iz_ne (by omega)]
end MKS
