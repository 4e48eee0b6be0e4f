/-! THE LAW FROM ITS START -/
theorem Inv_new {I : IM} (h05 : I 0 5 = 0) (hH : H6 I 1) (h8 : I 8 1 = 0 ∧ I 8 2 = 0) (h128 : I 128 2 = 0) (h132 : I 132 2 = 0) (h140 : I 140 2 = 0) (hz : ∀ b, I 148 b = 0) (hw : I 149 0 = 6 ∧ I 149 1 = 6 ∧ I 149 2 = 0 ∧ I 149 3 = 255 ∧ I 149 4 = 0 ∧ I 149 5 = 0) (hd : ∀ b, 6 ≤ b → b < 55 → I 149 b = 5) : Inv I := by
  obtain ⟨⟨a0, a1, a2, a3, a4, a5⟩, ad⟩ := hH
  obtain ⟨w0, w1, w2, w3, w4, w5⟩ := hw
  have z1 := hz 1
  have z2 := hz 2
  have z3 := hz 3
  have z7 := hz 7
  refine ⟨⟨⟨⟨by omega, by omega, by omega, by omega, by omega, by omega, fun k k0 k1 => by rw [ad k k0 k1]; omega⟩, fun s hs => ?_, fun a a0' a1' => by omega⟩, ⟨by omega, by omega, by omega, by omega, by omega, by omega⟩, fun k k0 k1 => ?_, fun s hs => ?_, fun a a0' a1' => by omega⟩, ⟨by omega, by omega, by omega, fun j j0 j1 => by omega⟩, ⟨by omega, fun i hi => ?_⟩, ⟨by omega, by omega, by omega⟩, ⟨by omega, ⟨by omega, fun k k0 k1 => by omega⟩, fun k k0 k1 => by omega⟩⟩
  · unfold Slot1 at hs; omega
  · rw [ad k k0 k1, hd (6 + k) (by omega) (by omega)]
  · unfold Slot1 at hs; omega
  · rw [z2]
    refine ⟨?_, fun hb => ?_⟩
    · have e : bi (bt 0 (i : Int) = true) = 0 := by unfold bi; rw [if_neg (by rw [bt_nil]; decide)]
      rw [e]
      have h : i = 0 ∨ i = 1 := by omega
      rcases h with rfl | rfl
      · exact h132
      · exact h140
    · rw [bt_nil] at hb
      cases hb
section LST
variable {xs : RO} {d : Nat} {I : IM} {L : LM}
theorem law_start (hx : ∀ z, -2147483648 ≤ xs.2 z ∧ xs.2 z ≤ 2147483647) (hL : xs.1 ≤ 2560) : Wk xs x_Law_law (d + 13) 156 4006 0 [some (vr 1000000), none, none, none] [] (0, sh2) I L pOne := by
  refine Wk.mkO (F := sh2) (m := 0) (bc := 155) (bs := 4000) (q := 3) c_Law_7 n_Sw ck_Sw df_Sw (by decide +kernel) (by omega) rfl ?_
  refine Wk.dup (q := 4) (by decide +kernel) rfl rfl ?_
  refine Wk.callI (mc := 147) (ms := 2083) (bc := 8) (bs := 1917) (q := 7) l_Law_9 m_Sw_init rfl (by decide +kernel) (fun _ h => h) (Nat.le_of_ble_eq_true rfl) (Nat.le_of_ble_eq_true rfl) rfl (c_Sw_init) (fun v X' I' L' h => by rw [h.1]; rfl) rfl (fun v X' J L' h => ?_)
  obtain ⟨rfl, rfl, h05, hH, h8, h128, h132, h140⟩ := h
  refine Wk.astore_n (k := 1) (q := 8) (by decide +kernel) rfl (by decide) rfl (fun _ h => h) rfl ?_
  refine Wk.mkO (F := sh2) (m := 148) (bc := 7) (bs := 1905) (q := 11) c_Law_10 n_Mod ck_Mod df_Mod (by decide +kernel) (by omega) rfl ?_
  refine Wk.dup (q := 12) (by decide +kernel) rfl rfl ?_
  refine Wk.callI (mc := 7) (ms := 1905) (bc := 0) (bs := 0) (q := 15) l_Law_12 m_Mod_init rfl (by decide +kernel) (fun _ h => h) (Nat.le_of_ble_eq_true rfl) (Nat.le_of_ble_eq_true rfl) rfl (c_Mod_init) (fun v X' I' L' h => by rw [h.1]; rfl) rfl (fun v X' K L' h => ?_)
  obtain ⟨rfl, rfl, hk, hw, hd⟩ := h
  refine Wk.astore_n (k := 2) (q := 16) (by decide +kernel) rfl (by decide) rfl (fun _ h => h) rfl ?_
  refine Wk.iconst (n := 0) (q := 17) (by decide +kernel) rfl ?_
  refine Wk.istore_n (k := 3) (q := 18) (by decide +kernel) rfl (by decide) rfl (fun _ h => h) rfl ?_
  have e : ∀ k, k < 148 → K k = J k := fun k hk2 => by rw [hk k (by omega), iz_ne (by omega)]
  refine law_loop hx hL 2561 0 K _ (by omega) (by omega) (by omega) (Inv_new ?_ ?_ ?_ ?_ ?_ ?_ (fun b => by rw [hk 148 (by omega), iz_at]) hw hd)
  · rw [e 0 (by omega)]; exact h05
  · unfold H6 at hH ⊢
    rw [e 1 (by omega), e (1 + 1) (by omega)]
    exact hH
  · rw [e 8 (by omega)]; exact h8
  · rw [e 128 (by omega)]; exact h128
  · rw [e 132 (by omega)]; exact h132
  · rw [e 140 (by omega)]; exact h140
end LST
