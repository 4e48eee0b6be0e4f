/-! A HARBOUR IS MADE; AN IMAGE IS MADE -/
/-- a new harbour's numbers -/
def H6 (I : IM) (o : Nat) : Prop := (I o 0 = 6 ∧ I o 1 = 6 ∧ I o 2 = 0 ∧ I o 3 = 255 ∧ I o 4 = 0 ∧ I o 5 = 0) ∧ ∀ b, 0 ≤ b → b < 49 → I (o + 1) b = 5
theorem HOK_F {F : Nat → SH} {o : Nat} (hF : ∀ j, j < 7 → F (o + j) = shH o j) : HOK (o + 7, F) o := by
  have h0 : F o = (1, 12, rH o) := hF 0 (by decide)
  have h1 : F (o + 1) = (10, 49, noR) := hF 1 (by decide)
  have h2 : F (o + 2) = (10, 8, noR) := hF 2 (by decide)
  have h3 : F (o + 3) = (10, 8, noR) := hF 3 (by decide)
  have h4 : F (o + 4) = (10, 8, noR) := hF 4 (by decide)
  have h5 : F (o + 5) = (10, 8, noR) := hF 5 (by decide)
  have h6 : F (o + 6) = (10, 8, noR) := hF 6 (by decide)
  refine ⟨⟨by show o < o + 7; omega, by show (F o).1 = 1; rw [h0], by show (F o).2.1 = 12; rw [h0], by decide⟩, fun j hj => ?_, ⟨by show o + 1 < o + 7; omega, by show (F (o + 1)).1 = 10; rw [h1], by show ((F (o + 1)).2.1 : Int) = 49; rw [h1]; rfl, by decide⟩, ⟨by show o + 2 < o + 7; omega, by show (F (o + 2)).1 = 10; rw [h2], by show ((F (o + 2)).2.1 : Int) = 8; rw [h2]; rfl, by decide⟩, ⟨by show o + 3 < o + 7; omega, by show (F (o + 3)).1 = 10; rw [h3], by show ((F (o + 3)).2.1 : Int) = 8; rw [h3]; rfl, by decide⟩, ⟨by show o + 4 < o + 7; omega, by show (F (o + 4)).1 = 10; rw [h4], by show ((F (o + 4)).2.1 : Int) = 8; rw [h4]; rfl, by decide⟩, ⟨by show o + 5 < o + 7; omega, by show (F (o + 5)).1 = 10; rw [h5], by show ((F (o + 5)).2.1 : Int) = 8; rw [h5]; rfl, by decide⟩, ⟨by show o + 6 < o + 7; omega, by show (F (o + 6)).1 = 10; rw [h6], by show ((F (o + 6)).2.1 : Int) = 8; rw [h6]; rfl, by decide⟩⟩
  show (F o).2.2 (6 + j) = _
  rw [h0]
  show (if 6 ≤ 6 + j ∧ 6 + j < 12 then some (o + (6 + j - 5)) else none) = _
  rw [if_pos (by omega), show o + (6 + j - 5) = o + 1 + j by omega]
theorem rH_nest (o : Nat) : rH o = fun j => if j = 11 then some (o + 6) else if j = 10 then some (o + 5) else if j = 9 then some (o + 4) else if j = 8 then some (o + 3) else if j = 7 then some (o + 2) else if j = 6 then some (o + 1) else none := by
  funext j
  unfold rH
  by_cases h : 6 ≤ j ∧ j < 12
  · rw [if_pos h]
    have hj : j = 6 ∨ j = 7 ∨ j = 8 ∨ j = 9 ∨ j = 10 ∨ j = 11 := by omega
    rcases hj with rfl | rfl | rfl | rfl | rfl | rfl <;> rfl
  · rw [if_neg h, if_neg (by omega), if_neg (by omega), if_neg (by omega), if_neg (by omega), if_neg (by omega), if_neg (by omega)]
section MKH
variable {xs : RO} {d : Nat} {I : IM} {L : LM}
theorem c_Harb_init {F : Nat → SH} {o : Nat} (ho : o + 8 < 1000000) (hF : ∀ j, j < 7 → F (o + j) = shH o j) : Wk xs x_Harb_init (d + 1) 6 89 0 [some (vr o)] [] (OX F o 1 12 (fun _ => none) (o + 1)) I L (fun v X' I' L' => X' = (o + 7, F) ∧ v = none ∧ (∀ k, k < o → I' k = I k) ∧ H6 I' o) := by
  have hH := HOK_F hF
  refine Wk.aload_n (k := 0) (q := 1) (by decide +kernel) rfl rfl rfl ?_
  refine Wk.objInit (q := 4) o_Harb_3 (by decide +kernel) (Nat.le_of_ble_eq_true rfl) rfl ?_
  refine Wk.aload_n (k := 0) (q := 5) (by decide +kernel) rfl rfl rfl ?_
  refine Wk.bipush (n := 49) (q := 7) (by decide +kernel) (by decide +kernel) rfl ?_
  refine Wk.mkI (N := 49) (bc := 5) (bs := 40) (q := 12) rfl (by decide) (by decide +kernel) (by omega) (hF 1 (by decide)) f_Harb_9 fw_Harb_6 rfl own_Harb (by decide +kernel) (by omega) (by decide) (by decide) rfl (fun _ => ⟨rfl, rfl⟩) rfl ?_
  refine Wk.aload_n (k := 0) (q := 13) (by decide +kernel) rfl rfl rfl ?_
  refine Wk.bipush (n := 8) (q := 15) (by decide +kernel) (by decide +kernel) rfl ?_
  refine Wk.mkI (N := 8) (bc := 4) (bs := 32) (q := 20) rfl (by decide) (by decide +kernel) (by omega) (hF 2 (by decide)) f_Harb_15 fw_Harb_7 rfl own_Harb (by decide +kernel) (by omega) (by decide) (by decide) rfl (fun _ => ⟨rfl, rfl⟩) rfl ?_
  refine Wk.aload_n (k := 0) (q := 21) (by decide +kernel) rfl rfl rfl ?_
  refine Wk.bipush (n := 8) (q := 23) (by decide +kernel) (by decide +kernel) rfl ?_
  refine Wk.mkI (N := 8) (bc := 3) (bs := 24) (q := 28) rfl (by decide) (by decide +kernel) (by omega) (hF 3 (by decide)) f_Harb_18 fw_Harb_8 rfl own_Harb (by decide +kernel) (by omega) (by decide) (by decide) rfl (fun _ => ⟨rfl, rfl⟩) rfl ?_
  refine Wk.aload_n (k := 0) (q := 29) (by decide +kernel) rfl rfl rfl ?_
  refine Wk.bipush (n := 8) (q := 31) (by decide +kernel) (by decide +kernel) rfl ?_
  refine Wk.mkI (N := 8) (bc := 2) (bs := 16) (q := 36) rfl (by decide) (by decide +kernel) (by omega) (hF 4 (by decide)) f_Harb_21 fw_Harb_9 rfl own_Harb (by decide +kernel) (by omega) (by decide) (by decide) rfl (fun _ => ⟨rfl, rfl⟩) rfl ?_
  refine Wk.aload_n (k := 0) (q := 37) (by decide +kernel) rfl rfl rfl ?_
  refine Wk.bipush (n := 8) (q := 39) (by decide +kernel) (by decide +kernel) rfl ?_
  refine Wk.mkI (N := 8) (bc := 1) (bs := 8) (q := 44) rfl (by decide) (by decide +kernel) (by omega) (hF 5 (by decide)) f_Harb_24 fw_Harb_10 rfl own_Harb (by decide +kernel) (by omega) (by decide) (by decide) rfl (fun _ => ⟨rfl, rfl⟩) rfl ?_
  refine Wk.aload_n (k := 0) (q := 45) (by decide +kernel) rfl rfl rfl ?_
  refine Wk.bipush (n := 8) (q := 47) (by decide +kernel) (by decide +kernel) rfl ?_
  refine Wk.mkI (N := 8) (bc := 0) (bs := 0) (q := 52) rfl (by decide) (by decide +kernel) (by omega) (hF 6 (by decide)) f_Harb_27 fw_Harb_11 rfl own_Harb (by decide +kernel) (by omega) (by decide) (by decide) rfl (fun _ => ⟨rfl, rfl⟩) rfl ?_
  refine Wk.ext (X' := (o + 7, F)) rfl (fun k hk => ?_) ?_
  · show F k = (if k = o then _ else F k)
    by_cases h : k = o
    · rw [if_pos h, h]
      have h0 : F o = (1, 12, rH o) := hF 0 (by decide)
      rw [h0, rH_nest]
    · rw [if_neg h]
  refine Wk.aload_n (k := 0) (q := 53) (by decide +kernel) rfl rfl rfl ?_
  refine Wk.iconst (n := 0) (q := 54) (by decide +kernel) rfl ?_
  refine Wk.putI (z := 2) (q := 57) f_Harb_30 fw_Harb_2 (by decide +kernel) hH.1 (by decide) rfl rfl ⟨rfl, rfl⟩ rfl ?_
  refine Wk.aload_n (k := 0) (q := 58) (by decide +kernel) rfl rfl rfl ?_
  refine Wk.sipush (n := 255) (q := 61) (by decide +kernel) (by decide +kernel) rfl ?_
  refine Wk.putI (z := 3) (q := 64) f_Harb_34 fw_Harb_3 (by decide +kernel) hH.1 (by decide) rfl rfl ⟨rfl, rfl⟩ rfl ?_
  refine Wk.aload_n (k := 0) (q := 65) (by decide +kernel) rfl rfl rfl ?_
  refine Wk.bipush (n := 6) (q := 67) (by decide +kernel) (by decide +kernel) rfl ?_
  refine Wk.bipush (n := 6) (q := 69) (by decide +kernel) (by decide +kernel) rfl ?_
  refine Wk.callV (mc := 0) (ms := 0) (bc := 0) (bs := 0) (q := 72) l_Harb_37 m_Harb_layOut (by decide +kernel) (fun _ h => h) hH.1 rfl (Nat.le_of_ble_eq_true rfl) (Nat.le_of_ble_eq_true rfl) rfl (c_Harb_layOut hH) (fun v X' I' L' h => by rw [h.1]) rfl (fun v X' I' L' h => ?_)
  obtain ⟨rfl, rfl, ⟨⟨p0, p1, p4, p5⟩, pb, pd, pa⟩, rfl⟩ := h
  refine Wk.vret (by decide +kernel) rfl ⟨rfl, rfl, fun k hk => ?_, ⟨p0, p1, ?_, ?_, p4, p5⟩, pd⟩
  · rw [pa k (by omega) (by omega), iup_other (by omega), iup_other (by omega), iz_ne (by omega), iz_ne (by omega), iz_ne (by omega), iz_ne (by omega), iz_ne (by omega), iz_ne (by omega)]
  · rw [pb 2 (by decide) (by decide) (by decide) (by decide), iup_ne (by omega), iup_at]
  · rw [pb 3 (by decide) (by decide) (by decide) (by decide), iup_at]
theorem c_Imag_init {F : Nat → SH} {o : Nat} (ho : o + 9 < 1000000) (hF0 : F o = (3, 3, fun k => if k = 0 then some (o + 1) else none)) (hF : ∀ j, j < 7 → F (o + 1 + j) = shH (o + 1) j) : Wk xs x_Imag_init (d + 2) 7 101 0 [some (vr o)] [] (OX F o 3 3 (fun _ => none) (o + 1)) I L (fun v X' I' L' => X' = (o + 8, F) ∧ v = none ∧ ∀ k, k ≤ o → I' k = I k) := by
  refine Wk.aload_n (k := 0) (q := 1) (by decide +kernel) rfl rfl rfl ?_
  refine Wk.objInit (q := 4) o_Imag_1 (by decide +kernel) (Nat.le_of_ble_eq_true rfl) rfl ?_
  refine Wk.aload_n (k := 0) (q := 5) (by decide +kernel) rfl rfl rfl ?_
  refine Wk.mkO (F := (OX F o 3 3 (fun _ => none) (o + 1)).2) (m := o + 1) (bc := 6) (bs := 89) (q := 8) c_Imag_7 n_Harb ck_Harb df_Harb (by decide +kernel) (by omega) rfl ?_
  refine Wk.dup (q := 9) (by decide +kernel) rfl rfl ?_
  refine Wk.callI (mc := 6) (ms := 89) (bc := 0) (bs := 0) (q := 12) l_Imag_9 m_Harb_init rfl (by decide +kernel) (fun _ h => h) (Nat.le_of_ble_eq_true rfl) (Nat.le_of_ble_eq_true rfl) rfl (c_Harb_init (by omega) (fun j hj => (OX_ne (by omega)).trans (hF j hj))) (fun v X' I' L' h => by rw [h.1]; rfl) rfl (fun v X' I' L' h => ?_)
  obtain ⟨rfl, rfl, hk, -⟩ := h
  refine Wk.pf (F := F) (o := o) (m := o + 8) (q := 15) f_Imag_10 fw_Imag_0 rfl own_Imag (by decide +kernel) (by omega) (by decide) (by decide) rfl (fun _ => ⟨rfl, rfl⟩) rfl ?_
  refine Wk.ext (X' := (o + 8, F)) rfl (fun k hk => ?_) ?_
  · show F k = (if k = o then _ else F k)
    by_cases h : k = o
    · rw [if_pos h, h, hF0]
    · rw [if_neg h]
  refine Wk.vret (by decide +kernel) rfl ⟨rfl, rfl, fun k hk2 => ?_⟩
  rw [hk k (by omega), iz_ne (by omega)]
end MKH
