/-! THE LAW'S BODY: one call of the script, on both sides -/
abbrev x_Law_law : CX := ("SwungShipsLaw", code, 4, some .boolean, false)
theorem dropW_hi {A : IM} {k : Int} {c : Nat} (h : 7 < c) : dropW A k c = A c := by
  unfold dropW
  rw [iup_other (by omega)]
  funext b
  simp only [shA]
  rw [if_neg (by omega)]
theorem dropA_hi {A : IM} {k : Int} {c : Nat} (h : 7 < c) : dropA A k c = A c := by
  unfold dropA
  rw [iup_other (by omega)]
  funext b
  simp only [shA]
  rw [if_neg (by omega)]
section LAW
variable {xs : RO} {d : Nat} {I : IM} {L : LM} {k : Int} {post : Option AV → LY → IM → LM → Prop}
/-- two ints that are the same -/
theorem Wk.icmp_same {cx : CX} {bc bs pc t : Nat} {lv : List (Option AV)} {st : List AV} {X : LY} {a off : Int} (hd : decode (cxC cx) pc = .ok (.if_icmp .eq off, 3)) (ht : (pc : Int) + off = (t : Int)) (kt : Wk xs cx d bc bs t lv st X I L post) : Wk xs cx d bc bs pc lv (vi a :: vi a :: st) X I L post :=
  Wk.two (A := True) (B := False) (q := pc + 3) (fun _ g _ _ _ _ _ _ _ _ _ _ _ _ _ _ ls hF kt kf => lv_icmp_eq hF.1 hF.2.1 hd ht (fun _ => kt trivial) (fun h => absurd rfl h)) (fun _ => kt) (fun h => h.elim)

theorem law_told (hx : ∀ z, -2147483648 ≤ xs.2 z ∧ xs.2 z ≤ 2147483647) (hI : Inv I) (k0 : 0 ≤ k) (k1 : k + 5 ≤ xs.1) (ih : ∀ I' L', Inv I' → Wk xs x_Law_law (d + 13) 0 0 836 [some (vr 1000000), some (vr 0), some (vr 148), some (vi k)] [] X2 I' L' post) : Wk xs x_Law_law (d + 13) 0 0 144 [some (vr 1000000), some (vr 0), some (vr 148), some (vi k)] [] X2 I L post := by
  refine Wk.aload_n (k := 1) (q := 145) (by decide +kernel) rfl rfl rfl ?_
  refine Wk.aload_n (k := 0) (q := 146) (by decide +kernel) rfl rfl rfl ?_
  refine Wk.iload_n (k := 3) (q := 147) (by decide +kernel) rfl rfl rfl ?_
  refine Wk.iconst (n := 1) (q := 148) (by decide +kernel) rfl ?_
  refine Wk.iadd (q := 149) (by decide +kernel) rfl ?_
  refine Wk.ialS (q := 150) (by decide +kernel) (by first | omega | exact bi_rng _) (by first | omega | exact bi_rng _) rfl ?_
  refine Wk.cV (q := 153) l_Law_13 m_Sw_told (by decide +kernel) (fun _ h => h) O_0 rfl (Nat.le_of_ble_eq_true rfl) (Nat.le_of_ble_eq_true rfl) rfl (c_Sw_told (hx _) hI) rfl (fun v I1 L1 hP => ?_)
  obtain ⟨⟨z, rfl, hz⟩, hF⟩ := hP
  have hI1 := Inv_frs hF hI
  refine Wk.aload_n (k := 2) (q := 154) (by decide +kernel) rfl rfl rfl ?_
  refine Wk.aload_n (k := 0) (q := 155) (by decide +kernel) rfl rfl rfl ?_
  refine Wk.iload_n (k := 3) (q := 156) (by decide +kernel) rfl rfl rfl ?_
  refine Wk.iconst (n := 1) (q := 157) (by decide +kernel) rfl ?_
  refine Wk.iadd (q := 158) (by decide +kernel) rfl ?_
  refine Wk.ialS (q := 159) (by decide +kernel) (by first | omega | exact bi_rng _) (by first | omega | exact bi_rng _) rfl ?_
  refine Wk.cV (q := 162) l_Law_17 m_Mod_told (by decide +kernel) (fun _ h => h) O_148 rfl (Nat.le_of_ble_eq_true rfl) (Nat.le_of_ble_eq_true rfl) rfl (c_Mod_told (hx _) hI1.1.mw hI1.2.2.2.2.2.1) rfl (fun v2 I2 L2 hP2 => ?_)
  obtain ⟨⟨z2, rfl, hz2⟩, hK, hL⟩ := hP2
  obtain rfl : z = z2 := Told_det hz ((Told_eq (hF 149 (by decide) (by decide) (by decide)) (hF 148 (by decide) (by decide) (by decide)) (hF 151 (by decide) (by decide) (by decide)) (hF 152 (by decide) (by decide) (by decide))).mp hz2)
  exact Wk.icmp_same (off := 674) (t := 836) (by decide +kernel) (by decide) (ih _ _ (Inv_kp hK hI1))
theorem law_cell (hx : ∀ z, -2147483648 ≤ xs.2 z ∧ xs.2 z ≤ 2147483647) (hI : Inv I) (k0 : 0 ≤ k) (k1 : k + 5 ≤ xs.1) (ih : ∀ I' L', Inv I' → Wk xs x_Law_law (d + 13) 0 0 836 [some (vr 1000000), some (vr 0), some (vr 148), some (vi k)] [] X2 I' L' post) : Wk xs x_Law_law (d + 13) 0 0 167 [some (vr 1000000), some (vr 0), some (vr 148), some (vi k)] [] X2 I L post := by
  refine Wk.aload_n (k := 1) (q := 168) (by decide +kernel) rfl rfl rfl ?_
  refine Wk.aload_n (k := 0) (q := 169) (by decide +kernel) rfl rfl rfl ?_
  refine Wk.iload_n (k := 3) (q := 170) (by decide +kernel) rfl rfl rfl ?_
  refine Wk.iconst (n := 1) (q := 171) (by decide +kernel) rfl ?_
  refine Wk.iadd (q := 172) (by decide +kernel) rfl ?_
  refine Wk.ialS (q := 173) (by decide +kernel) (by first | omega | exact bi_rng _) (by first | omega | exact bi_rng _) rfl ?_
  refine Wk.aload_n (k := 0) (q := 174) (by decide +kernel) rfl rfl rfl ?_
  refine Wk.iload_n (k := 3) (q := 175) (by decide +kernel) rfl rfl rfl ?_
  refine Wk.iconst (n := 2) (q := 176) (by decide +kernel) rfl ?_
  refine Wk.iadd (q := 177) (by decide +kernel) rfl ?_
  refine Wk.ialS (q := 178) (by decide +kernel) (by first | omega | exact bi_rng _) (by first | omega | exact bi_rng _) rfl ?_
  refine Wk.aload_n (k := 0) (q := 179) (by decide +kernel) rfl rfl rfl ?_
  refine Wk.iload_n (k := 3) (q := 180) (by decide +kernel) rfl rfl rfl ?_
  refine Wk.iconst (n := 3) (q := 181) (by decide +kernel) rfl ?_
  refine Wk.iadd (q := 182) (by decide +kernel) rfl ?_
  refine Wk.ialS (q := 183) (by decide +kernel) (by first | omega | exact bi_rng _) (by first | omega | exact bi_rng _) rfl ?_
  refine Wk.cV (q := 186) l_Law_18 m_Sw_cell (by decide +kernel) (fun _ h => h) O_0 rfl (Nat.le_of_ble_eq_true rfl) (Nat.le_of_ble_eq_true rfl) rfl (c_Sw_cell (hx _) (hx _) (hx _) hI.1) rfl (fun v I1 L1 hP => ?_)
  obtain ⟨⟨z, rfl, hz⟩, hF⟩ := hP
  have hI1 := Inv_frs hF hI
  refine Wk.aload_n (k := 2) (q := 187) (by decide +kernel) rfl rfl rfl ?_
  refine Wk.aload_n (k := 0) (q := 188) (by decide +kernel) rfl rfl rfl ?_
  refine Wk.iload_n (k := 3) (q := 189) (by decide +kernel) rfl rfl rfl ?_
  refine Wk.iconst (n := 1) (q := 190) (by decide +kernel) rfl ?_
  refine Wk.iadd (q := 191) (by decide +kernel) rfl ?_
  refine Wk.ialS (q := 192) (by decide +kernel) (by first | omega | exact bi_rng _) (by first | omega | exact bi_rng _) rfl ?_
  refine Wk.aload_n (k := 0) (q := 193) (by decide +kernel) rfl rfl rfl ?_
  refine Wk.iload_n (k := 3) (q := 194) (by decide +kernel) rfl rfl rfl ?_
  refine Wk.iconst (n := 2) (q := 195) (by decide +kernel) rfl ?_
  refine Wk.iadd (q := 196) (by decide +kernel) rfl ?_
  refine Wk.ialS (q := 197) (by decide +kernel) (by first | omega | exact bi_rng _) (by first | omega | exact bi_rng _) rfl ?_
  refine Wk.aload_n (k := 0) (q := 198) (by decide +kernel) rfl rfl rfl ?_
  refine Wk.iload_n (k := 3) (q := 199) (by decide +kernel) rfl rfl rfl ?_
  refine Wk.iconst (n := 3) (q := 200) (by decide +kernel) rfl ?_
  refine Wk.iadd (q := 201) (by decide +kernel) rfl ?_
  refine Wk.ialS (q := 202) (by decide +kernel) (by first | omega | exact bi_rng _) (by first | omega | exact bi_rng _) rfl ?_
  refine Wk.cV (q := 205) l_Law_22 m_Mod_cell (by decide +kernel) (fun _ h => h) O_148 rfl (Nat.le_of_ble_eq_true rfl) (Nat.le_of_ble_eq_true rfl) rfl (c_Mod_cell (hx _) (hx _) (hx _) hI1.1.mw) rfl (fun v2 I2 L2 hP2 => ?_)
  obtain ⟨⟨z2, rfl, hz2⟩, hK, hL⟩ := hP2
  obtain rfl : z = z2 := CelS_det hz ((CelS_eq (hF 149 (by decide) (by decide) (by decide))).mp hz2)
  exact Wk.icmp_same (off := 631) (t := 836) (by decide +kernel) (by decide) (ih _ _ (Inv_kp hK hI1))
theorem law_ship (hx : ∀ z, -2147483648 ≤ xs.2 z ∧ xs.2 z ≤ 2147483647) (hI : Inv I) (k0 : 0 ≤ k) (k1 : k + 5 ≤ xs.1) (ih : ∀ I' L', Inv I' → Wk xs x_Law_law (d + 13) 0 0 836 [some (vr 1000000), some (vr 0), some (vr 148), some (vi k)] [] X2 I' L' post) : Wk xs x_Law_law (d + 13) 0 0 210 [some (vr 1000000), some (vr 0), some (vr 148), some (vi k)] [] X2 I L post := by
  refine Wk.aload_n (k := 1) (q := 211) (by decide +kernel) rfl rfl rfl ?_
  refine Wk.aload_n (k := 0) (q := 212) (by decide +kernel) rfl rfl rfl ?_
  refine Wk.iload_n (k := 3) (q := 213) (by decide +kernel) rfl rfl rfl ?_
  refine Wk.iconst (n := 1) (q := 214) (by decide +kernel) rfl ?_
  refine Wk.iadd (q := 215) (by decide +kernel) rfl ?_
  refine Wk.ialS (q := 216) (by decide +kernel) (by first | omega | exact bi_rng _) (by first | omega | exact bi_rng _) rfl ?_
  refine Wk.aload_n (k := 0) (q := 217) (by decide +kernel) rfl rfl rfl ?_
  refine Wk.iload_n (k := 3) (q := 218) (by decide +kernel) rfl rfl rfl ?_
  refine Wk.iconst (n := 2) (q := 219) (by decide +kernel) rfl ?_
  refine Wk.iadd (q := 220) (by decide +kernel) rfl ?_
  refine Wk.ialS (q := 221) (by decide +kernel) (by first | omega | exact bi_rng _) (by first | omega | exact bi_rng _) rfl ?_
  refine Wk.cV (q := 224) l_Law_23 m_Sw_ship (by decide +kernel) (fun _ h => h) O_0 rfl (Nat.le_of_ble_eq_true rfl) (Nat.le_of_ble_eq_true rfl) rfl (c_Sw_ship (hx _) (hx _) hI.1) rfl (fun v I1 L1 hP => ?_)
  obtain ⟨⟨z, rfl, hz⟩, hF⟩ := hP
  have hI1 := Inv_frs hF hI
  refine Wk.aload_n (k := 2) (q := 225) (by decide +kernel) rfl rfl rfl ?_
  refine Wk.aload_n (k := 0) (q := 226) (by decide +kernel) rfl rfl rfl ?_
  refine Wk.iload_n (k := 3) (q := 227) (by decide +kernel) rfl rfl rfl ?_
  refine Wk.iconst (n := 1) (q := 228) (by decide +kernel) rfl ?_
  refine Wk.iadd (q := 229) (by decide +kernel) rfl ?_
  refine Wk.ialS (q := 230) (by decide +kernel) (by first | omega | exact bi_rng _) (by first | omega | exact bi_rng _) rfl ?_
  refine Wk.aload_n (k := 0) (q := 231) (by decide +kernel) rfl rfl rfl ?_
  refine Wk.iload_n (k := 3) (q := 232) (by decide +kernel) rfl rfl rfl ?_
  refine Wk.iconst (n := 2) (q := 233) (by decide +kernel) rfl ?_
  refine Wk.iadd (q := 234) (by decide +kernel) rfl ?_
  refine Wk.ialS (q := 235) (by decide +kernel) (by first | omega | exact bi_rng _) (by first | omega | exact bi_rng _) rfl ?_
  refine Wk.cV (q := 238) l_Law_27 m_Mod_ship (by decide +kernel) (fun _ h => h) O_148 rfl (Nat.le_of_ble_eq_true rfl) (Nat.le_of_ble_eq_true rfl) rfl (c_Mod_ship (hx _) (hx _) hI1.1.mw) rfl (fun v2 I2 L2 hP2 => ?_)
  obtain ⟨⟨z2, rfl, hz2⟩, hK, hL⟩ := hP2
  obtain rfl : z = z2 := ShpS_det hz ((ShpS_eq (hF 149 (by decide) (by decide) (by decide))).mp hz2)
  exact Wk.icmp_same (off := 598) (t := 836) (by decide +kernel) (by decide) (ih _ _ (Inv_kp hK hI1))
theorem law_waits (hx : ∀ z, -2147483648 ≤ xs.2 z ∧ xs.2 z ≤ 2147483647) (hI : Inv I) (k0 : 0 ≤ k) (k1 : k + 5 ≤ xs.1) (ih : ∀ I' L', Inv I' → Wk xs x_Law_law (d + 13) 0 0 836 [some (vr 1000000), some (vr 0), some (vr 148), some (vi k)] [] X2 I' L' post) : Wk xs x_Law_law (d + 13) 0 0 243 [some (vr 1000000), some (vr 0), some (vr 148), some (vi k)] [] X2 I L post := by
  refine Wk.aload_n (k := 1) (q := 244) (by decide +kernel) rfl rfl rfl ?_
  refine Wk.aload_n (k := 0) (q := 245) (by decide +kernel) rfl rfl rfl ?_
  refine Wk.iload_n (k := 3) (q := 246) (by decide +kernel) rfl rfl rfl ?_
  refine Wk.iconst (n := 1) (q := 247) (by decide +kernel) rfl ?_
  refine Wk.iadd (q := 248) (by decide +kernel) rfl ?_
  refine Wk.ialS (q := 249) (by decide +kernel) (by first | omega | exact bi_rng _) (by first | omega | exact bi_rng _) rfl ?_
  refine Wk.aload_n (k := 0) (q := 250) (by decide +kernel) rfl rfl rfl ?_
  refine Wk.iload_n (k := 3) (q := 251) (by decide +kernel) rfl rfl rfl ?_
  refine Wk.iconst (n := 2) (q := 252) (by decide +kernel) rfl ?_
  refine Wk.iadd (q := 253) (by decide +kernel) rfl ?_
  refine Wk.ialS (q := 254) (by decide +kernel) (by first | omega | exact bi_rng _) (by first | omega | exact bi_rng _) rfl ?_
  refine Wk.cV (q := 257) l_Law_28 m_Sw_waits (by decide +kernel) (fun _ h => h) O_0 rfl (Nat.le_of_ble_eq_true rfl) (Nat.le_of_ble_eq_true rfl) rfl (c_Sw_waits (hx _) (hx _) hI.1) rfl (fun v I1 L1 hP => ?_)
  obtain ⟨⟨z, rfl, hz⟩, hF⟩ := hP
  have hI1 := Inv_frs hF hI
  refine Wk.aload_n (k := 2) (q := 258) (by decide +kernel) rfl rfl rfl ?_
  refine Wk.aload_n (k := 0) (q := 259) (by decide +kernel) rfl rfl rfl ?_
  refine Wk.iload_n (k := 3) (q := 260) (by decide +kernel) rfl rfl rfl ?_
  refine Wk.iconst (n := 1) (q := 261) (by decide +kernel) rfl ?_
  refine Wk.iadd (q := 262) (by decide +kernel) rfl ?_
  refine Wk.ialS (q := 263) (by decide +kernel) (by first | omega | exact bi_rng _) (by first | omega | exact bi_rng _) rfl ?_
  refine Wk.aload_n (k := 0) (q := 264) (by decide +kernel) rfl rfl rfl ?_
  refine Wk.iload_n (k := 3) (q := 265) (by decide +kernel) rfl rfl rfl ?_
  refine Wk.iconst (n := 2) (q := 266) (by decide +kernel) rfl ?_
  refine Wk.iadd (q := 267) (by decide +kernel) rfl ?_
  refine Wk.ialS (q := 268) (by decide +kernel) (by first | omega | exact bi_rng _) (by first | omega | exact bi_rng _) rfl ?_
  refine Wk.cV (q := 271) l_Law_31 m_Mod_waits (by decide +kernel) (fun _ h => h) O_148 rfl (Nat.le_of_ble_eq_true rfl) (Nat.le_of_ble_eq_true rfl) rfl (c_Mod_waits (hx _) (hx _) hI1.1.mw) rfl (fun v2 I2 L2 hP2 => ?_)
  obtain ⟨⟨z2, rfl, hz2⟩, hK, hL⟩ := hP2
  obtain rfl : z = z2 := WaiS_det hz ((WaiS_eq (hF 149 (by decide) (by decide) (by decide))).mp hz2)
  exact Wk.icmp_same (off := 565) (t := 836) (by decide +kernel) (by decide) (ih _ _ (Inv_kp hK hI1))
theorem law_moves (hx : ∀ z, -2147483648 ≤ xs.2 z ∧ xs.2 z ≤ 2147483647) (hI : Inv I) (k0 : 0 ≤ k) (k1 : k + 5 ≤ xs.1) (ih : ∀ I' L', Inv I' → Wk xs x_Law_law (d + 13) 0 0 836 [some (vr 1000000), some (vr 0), some (vr 148), some (vi k)] [] X2 I' L' post) : Wk xs x_Law_law (d + 13) 0 0 276 [some (vr 1000000), some (vr 0), some (vr 148), some (vi k)] [] X2 I L post := by
  refine Wk.aload_n (k := 1) (q := 277) (by decide +kernel) rfl rfl rfl ?_
  refine Wk.aload_n (k := 0) (q := 278) (by decide +kernel) rfl rfl rfl ?_
  refine Wk.iload_n (k := 3) (q := 279) (by decide +kernel) rfl rfl rfl ?_
  refine Wk.iconst (n := 1) (q := 280) (by decide +kernel) rfl ?_
  refine Wk.iadd (q := 281) (by decide +kernel) rfl ?_
  refine Wk.ialS (q := 282) (by decide +kernel) (by first | omega | exact bi_rng _) (by first | omega | exact bi_rng _) rfl ?_
  refine Wk.aload_n (k := 0) (q := 283) (by decide +kernel) rfl rfl rfl ?_
  refine Wk.iload_n (k := 3) (q := 284) (by decide +kernel) rfl rfl rfl ?_
  refine Wk.iconst (n := 2) (q := 285) (by decide +kernel) rfl ?_
  refine Wk.iadd (q := 286) (by decide +kernel) rfl ?_
  refine Wk.ialS (q := 287) (by decide +kernel) (by first | omega | exact bi_rng _) (by first | omega | exact bi_rng _) rfl ?_
  refine Wk.cV (q := 290) l_Law_32 m_Sw_moves (by decide +kernel) (fun _ h => h) O_0 rfl (Nat.le_of_ble_eq_true rfl) (Nat.le_of_ble_eq_true rfl) rfl (c_Sw_moves (hx _) (hx _) hI.1) rfl (fun v I1 L1 hP => ?_)
  obtain ⟨⟨z, rfl, hz⟩, hF⟩ := hP
  have hI1 := Inv_frs hF hI
  refine Wk.aload_n (k := 2) (q := 291) (by decide +kernel) rfl rfl rfl ?_
  refine Wk.aload_n (k := 0) (q := 292) (by decide +kernel) rfl rfl rfl ?_
  refine Wk.iload_n (k := 3) (q := 293) (by decide +kernel) rfl rfl rfl ?_
  refine Wk.iconst (n := 1) (q := 294) (by decide +kernel) rfl ?_
  refine Wk.iadd (q := 295) (by decide +kernel) rfl ?_
  refine Wk.ialS (q := 296) (by decide +kernel) (by first | omega | exact bi_rng _) (by first | omega | exact bi_rng _) rfl ?_
  refine Wk.aload_n (k := 0) (q := 297) (by decide +kernel) rfl rfl rfl ?_
  refine Wk.iload_n (k := 3) (q := 298) (by decide +kernel) rfl rfl rfl ?_
  refine Wk.iconst (n := 2) (q := 299) (by decide +kernel) rfl ?_
  refine Wk.iadd (q := 300) (by decide +kernel) rfl ?_
  refine Wk.ialS (q := 301) (by decide +kernel) (by first | omega | exact bi_rng _) (by first | omega | exact bi_rng _) rfl ?_
  refine Wk.cV (q := 304) l_Law_35 m_Mod_moves (by decide +kernel) (fun _ h => h) O_148 rfl (Nat.le_of_ble_eq_true rfl) (Nat.le_of_ble_eq_true rfl) rfl (c_Mod_moves (hx _) (hx _) hI1.1.mw) rfl (fun v2 I2 L2 hP2 => ?_)
  obtain ⟨⟨z2, rfl, hz2⟩, hK, hL⟩ := hP2
  obtain rfl : z = z2 := MovS_det hz ((MovS_eq (hF 149 (by decide) (by decide) (by decide))).mp hz2)
  exact Wk.icmp_same (off := 532) (t := 836) (by decide +kernel) (by decide) (ih _ _ (Inv_kp hK hI1))
theorem law_lies (hx : ∀ z, -2147483648 ≤ xs.2 z ∧ xs.2 z ≤ 2147483647) (hI : Inv I) (k0 : 0 ≤ k) (k1 : k + 5 ≤ xs.1) (ih : ∀ I' L', Inv I' → Wk xs x_Law_law (d + 13) 0 0 836 [some (vr 1000000), some (vr 0), some (vr 148), some (vi k)] [] X2 I' L' post) : Wk xs x_Law_law (d + 13) 0 0 309 [some (vr 1000000), some (vr 0), some (vr 148), some (vi k)] [] X2 I L post := by
  refine Wk.aload_n (k := 1) (q := 310) (by decide +kernel) rfl rfl rfl ?_
  refine Wk.aload_n (k := 0) (q := 311) (by decide +kernel) rfl rfl rfl ?_
  refine Wk.iload_n (k := 3) (q := 312) (by decide +kernel) rfl rfl rfl ?_
  refine Wk.iconst (n := 1) (q := 313) (by decide +kernel) rfl ?_
  refine Wk.iadd (q := 314) (by decide +kernel) rfl ?_
  refine Wk.ialS (q := 315) (by decide +kernel) (by first | omega | exact bi_rng _) (by first | omega | exact bi_rng _) rfl ?_
  refine Wk.aload_n (k := 0) (q := 316) (by decide +kernel) rfl rfl rfl ?_
  refine Wk.iload_n (k := 3) (q := 317) (by decide +kernel) rfl rfl rfl ?_
  refine Wk.iconst (n := 2) (q := 318) (by decide +kernel) rfl ?_
  refine Wk.iadd (q := 319) (by decide +kernel) rfl ?_
  refine Wk.ialS (q := 320) (by decide +kernel) (by first | omega | exact bi_rng _) (by first | omega | exact bi_rng _) rfl ?_
  refine Wk.aload_n (k := 0) (q := 321) (by decide +kernel) rfl rfl rfl ?_
  refine Wk.iload_n (k := 3) (q := 322) (by decide +kernel) rfl rfl rfl ?_
  refine Wk.iconst (n := 3) (q := 323) (by decide +kernel) rfl ?_
  refine Wk.iadd (q := 324) (by decide +kernel) rfl ?_
  refine Wk.ialS (q := 325) (by decide +kernel) (by first | omega | exact bi_rng _) (by first | omega | exact bi_rng _) rfl ?_
  refine Wk.aload_n (k := 0) (q := 326) (by decide +kernel) rfl rfl rfl ?_
  refine Wk.iload_n (k := 3) (q := 327) (by decide +kernel) rfl rfl rfl ?_
  refine Wk.iconst (n := 4) (q := 328) (by decide +kernel) rfl ?_
  refine Wk.iadd (q := 329) (by decide +kernel) rfl ?_
  refine Wk.ialS (q := 330) (by decide +kernel) (by first | omega | exact bi_rng _) (by first | omega | exact bi_rng _) rfl ?_
  refine Wk.cV (q := 333) l_Law_36 m_Sw_lies (by decide +kernel) (fun _ h => h) O_0 rfl (Nat.le_of_ble_eq_true rfl) (Nat.le_of_ble_eq_true rfl) rfl (c_Sw_lies (hx _) (hx _) (hx _) (hx _) hI.1) rfl (fun v I1 L1 hP => ?_)
  obtain ⟨⟨z, rfl, hz⟩, hF⟩ := hP
  have hI1 := Inv_frs hF hI
  refine Wk.aload_n (k := 2) (q := 334) (by decide +kernel) rfl rfl rfl ?_
  refine Wk.aload_n (k := 0) (q := 335) (by decide +kernel) rfl rfl rfl ?_
  refine Wk.iload_n (k := 3) (q := 336) (by decide +kernel) rfl rfl rfl ?_
  refine Wk.iconst (n := 1) (q := 337) (by decide +kernel) rfl ?_
  refine Wk.iadd (q := 338) (by decide +kernel) rfl ?_
  refine Wk.ialS (q := 339) (by decide +kernel) (by first | omega | exact bi_rng _) (by first | omega | exact bi_rng _) rfl ?_
  refine Wk.aload_n (k := 0) (q := 340) (by decide +kernel) rfl rfl rfl ?_
  refine Wk.iload_n (k := 3) (q := 341) (by decide +kernel) rfl rfl rfl ?_
  refine Wk.iconst (n := 2) (q := 342) (by decide +kernel) rfl ?_
  refine Wk.iadd (q := 343) (by decide +kernel) rfl ?_
  refine Wk.ialS (q := 344) (by decide +kernel) (by first | omega | exact bi_rng _) (by first | omega | exact bi_rng _) rfl ?_
  refine Wk.aload_n (k := 0) (q := 345) (by decide +kernel) rfl rfl rfl ?_
  refine Wk.iload_n (k := 3) (q := 346) (by decide +kernel) rfl rfl rfl ?_
  refine Wk.iconst (n := 3) (q := 347) (by decide +kernel) rfl ?_
  refine Wk.iadd (q := 348) (by decide +kernel) rfl ?_
  refine Wk.ialS (q := 349) (by decide +kernel) (by first | omega | exact bi_rng _) (by first | omega | exact bi_rng _) rfl ?_
  refine Wk.aload_n (k := 0) (q := 350) (by decide +kernel) rfl rfl rfl ?_
  refine Wk.iload_n (k := 3) (q := 351) (by decide +kernel) rfl rfl rfl ?_
  refine Wk.iconst (n := 4) (q := 352) (by decide +kernel) rfl ?_
  refine Wk.iadd (q := 353) (by decide +kernel) rfl ?_
  refine Wk.ialS (q := 354) (by decide +kernel) (by first | omega | exact bi_rng _) (by first | omega | exact bi_rng _) rfl ?_
  refine Wk.cV (q := 357) l_Law_40 m_Mod_lies (by decide +kernel) (fun _ h => h) O_148 rfl (Nat.le_of_ble_eq_true rfl) (Nat.le_of_ble_eq_true rfl) rfl (c_Mod_lies (hx _) (hx _) (hx _) (hx _) hI1.1.mw) rfl (fun v2 I2 L2 hP2 => ?_)
  obtain ⟨⟨z2, rfl, hz2⟩, hK, hL⟩ := hP2
  obtain rfl : z = z2 := LieS_det hz ((LieS_eq (hF 149 (by decide) (by decide) (by decide))).mp hz2)
  exact Wk.icmp_same (off := 479) (t := 836) (by decide +kernel) (by decide) (ih _ _ (Inv_kp hK hI1))
theorem law_harbour (hx : ∀ z, -2147483648 ≤ xs.2 z ∧ xs.2 z ≤ 2147483647) (hI : Inv I) (k0 : 0 ≤ k) (k1 : k + 5 ≤ xs.1) (ih : ∀ I' L', Inv I' → Wk xs x_Law_law (d + 13) 0 0 836 [some (vr 1000000), some (vr 0), some (vr 148), some (vi k)] [] X2 I' L' post) : Wk xs x_Law_law (d + 13) 0 0 362 [some (vr 1000000), some (vr 0), some (vr 148), some (vi k)] [] X2 I L post := by
  refine Wk.aload_n (k := 1) (q := 363) (by decide +kernel) rfl rfl rfl ?_
  refine Wk.aload_n (k := 0) (q := 364) (by decide +kernel) rfl rfl rfl ?_
  refine Wk.iload_n (k := 3) (q := 365) (by decide +kernel) rfl rfl rfl ?_
  refine Wk.iconst (n := 1) (q := 366) (by decide +kernel) rfl ?_
  refine Wk.iadd (q := 367) (by decide +kernel) rfl ?_
  refine Wk.ialS (q := 368) (by decide +kernel) (by first | omega | exact bi_rng _) (by first | omega | exact bi_rng _) rfl ?_
  refine Wk.aload_n (k := 0) (q := 369) (by decide +kernel) rfl rfl rfl ?_
  refine Wk.iload_n (k := 3) (q := 370) (by decide +kernel) rfl rfl rfl ?_
  refine Wk.iconst (n := 2) (q := 371) (by decide +kernel) rfl ?_
  refine Wk.iadd (q := 372) (by decide +kernel) rfl ?_
  refine Wk.ialS (q := 373) (by decide +kernel) (by first | omega | exact bi_rng _) (by first | omega | exact bi_rng _) rfl ?_
  refine Wk.cV (q := 376) l_Law_41 m_Sw_harbour (by decide +kernel) (fun _ h => h) O_0 rfl (Nat.le_of_ble_eq_true rfl) (Nat.le_of_ble_eq_true rfl) rfl (c_Sw_harbour (hx _) (hx _) hI.1 hI.2.1) rfl (fun v I1 L1 hP => ?_)
  obtain ⟨z, rfl, hz⟩ := hP
  have hk : ∀ c, 148 ≤ c → I1 c = I c := fun c hc => by
    rcases hz with ⟨-, -, e⟩ | ⟨-, -, Ia, hR, hl⟩
    · rw [e]
    · rw [hl.2.2.2 c (by omega) (by omega), hR.hi hI.2.1.1 (by omega)]
  refine Wk.aload_n (k := 2) (q := 377) (by decide +kernel) rfl rfl rfl ?_
  refine Wk.aload_n (k := 0) (q := 378) (by decide +kernel) rfl rfl rfl ?_
  refine Wk.iload_n (k := 3) (q := 379) (by decide +kernel) rfl rfl rfl ?_
  refine Wk.iconst (n := 1) (q := 380) (by decide +kernel) rfl ?_
  refine Wk.iadd (q := 381) (by decide +kernel) rfl ?_
  refine Wk.ialS (q := 382) (by decide +kernel) (by first | omega | exact bi_rng _) (by first | omega | exact bi_rng _) rfl ?_
  refine Wk.aload_n (k := 0) (q := 383) (by decide +kernel) rfl rfl rfl ?_
  refine Wk.iload_n (k := 3) (q := 384) (by decide +kernel) rfl rfl rfl ?_
  refine Wk.iconst (n := 2) (q := 385) (by decide +kernel) rfl ?_
  refine Wk.iadd (q := 386) (by decide +kernel) rfl ?_
  refine Wk.ialS (q := 387) (by decide +kernel) (by first | omega | exact bi_rng _) (by first | omega | exact bi_rng _) rfl ?_
  refine Wk.cV (q := 390) l_Law_44 m_Mod_harbour (by decide +kernel) (fun _ h => h) O_148 rfl (Nat.le_of_ble_eq_true rfl) (Nat.le_of_ble_eq_true rfl) rfl (c_Mod_harbour (hx _) (hx _) ((MW_eq (hk 149 (by omega))).mpr hI.1.mw) (by rw [hk 148 (by omega)]; exact hI.k16.1) (by rw [hk 148 (by omega)]; exact hI.k16.2)) rfl (fun v2 I2 L2 hP2 => ?_)
  obtain ⟨⟨z2, rfl, hz2⟩, hL⟩ := hP2
  obtain ⟨rfl, hI2⟩ := J_harbour hI hz hz2
  exact Wk.icmp_same (off := 446) (t := 836) (by decide +kernel) (by decide) (ih _ _ hI2)
theorem law_depth (hx : ∀ z, -2147483648 ≤ xs.2 z ∧ xs.2 z ≤ 2147483647) (hI : Inv I) (k0 : 0 ≤ k) (k1 : k + 5 ≤ xs.1) (ih : ∀ I' L', Inv I' → Wk xs x_Law_law (d + 13) 0 0 836 [some (vr 1000000), some (vr 0), some (vr 148), some (vi k)] [] X2 I' L' post) : Wk xs x_Law_law (d + 13) 0 0 395 [some (vr 1000000), some (vr 0), some (vr 148), some (vi k)] [] X2 I L post := by
  refine Wk.aload_n (k := 1) (q := 396) (by decide +kernel) rfl rfl rfl ?_
  refine Wk.aload_n (k := 0) (q := 397) (by decide +kernel) rfl rfl rfl ?_
  refine Wk.iload_n (k := 3) (q := 398) (by decide +kernel) rfl rfl rfl ?_
  refine Wk.iconst (n := 1) (q := 399) (by decide +kernel) rfl ?_
  refine Wk.iadd (q := 400) (by decide +kernel) rfl ?_
  refine Wk.ialS (q := 401) (by decide +kernel) (by first | omega | exact bi_rng _) (by first | omega | exact bi_rng _) rfl ?_
  refine Wk.aload_n (k := 0) (q := 402) (by decide +kernel) rfl rfl rfl ?_
  refine Wk.iload_n (k := 3) (q := 403) (by decide +kernel) rfl rfl rfl ?_
  refine Wk.iconst (n := 2) (q := 404) (by decide +kernel) rfl ?_
  refine Wk.iadd (q := 405) (by decide +kernel) rfl ?_
  refine Wk.ialS (q := 406) (by decide +kernel) (by first | omega | exact bi_rng _) (by first | omega | exact bi_rng _) rfl ?_
  refine Wk.aload_n (k := 0) (q := 407) (by decide +kernel) rfl rfl rfl ?_
  refine Wk.iload_n (k := 3) (q := 408) (by decide +kernel) rfl rfl rfl ?_
  refine Wk.iconst (n := 3) (q := 409) (by decide +kernel) rfl ?_
  refine Wk.iadd (q := 410) (by decide +kernel) rfl ?_
  refine Wk.ialS (q := 411) (by decide +kernel) (by first | omega | exact bi_rng _) (by first | omega | exact bi_rng _) rfl ?_
  refine Wk.cV (q := 414) l_Law_45 m_Sw_depth (by decide +kernel) (fun _ h => h) O_0 rfl (Nat.le_of_ble_eq_true rfl) (Nat.le_of_ble_eq_true rfl) rfl (c_Sw_depth (hx _) (hx _) (hx _) hI.1 hI.2.1) rfl (fun v I1 L1 hP => ?_)
  obtain ⟨z, rfl, hz⟩ := hP
  have hk : ∀ c, 148 ≤ c → I1 c = I c := fun c hc => by
    rcases hz with ⟨-, -, e⟩ | ⟨-, -, -, e⟩ | ⟨-, -, -, Ia, hR, e⟩
    · rw [e]
    · rw [e]
    · rw [e, iup_other (by omega), hR.hi hI.2.1.1 (by omega)]
  refine Wk.aload_n (k := 2) (q := 415) (by decide +kernel) rfl rfl rfl ?_
  refine Wk.aload_n (k := 0) (q := 416) (by decide +kernel) rfl rfl rfl ?_
  refine Wk.iload_n (k := 3) (q := 417) (by decide +kernel) rfl rfl rfl ?_
  refine Wk.iconst (n := 1) (q := 418) (by decide +kernel) rfl ?_
  refine Wk.iadd (q := 419) (by decide +kernel) rfl ?_
  refine Wk.ialS (q := 420) (by decide +kernel) (by first | omega | exact bi_rng _) (by first | omega | exact bi_rng _) rfl ?_
  refine Wk.aload_n (k := 0) (q := 421) (by decide +kernel) rfl rfl rfl ?_
  refine Wk.iload_n (k := 3) (q := 422) (by decide +kernel) rfl rfl rfl ?_
  refine Wk.iconst (n := 2) (q := 423) (by decide +kernel) rfl ?_
  refine Wk.iadd (q := 424) (by decide +kernel) rfl ?_
  refine Wk.ialS (q := 425) (by decide +kernel) (by first | omega | exact bi_rng _) (by first | omega | exact bi_rng _) rfl ?_
  refine Wk.aload_n (k := 0) (q := 426) (by decide +kernel) rfl rfl rfl ?_
  refine Wk.iload_n (k := 3) (q := 427) (by decide +kernel) rfl rfl rfl ?_
  refine Wk.iconst (n := 3) (q := 428) (by decide +kernel) rfl ?_
  refine Wk.iadd (q := 429) (by decide +kernel) rfl ?_
  refine Wk.ialS (q := 430) (by decide +kernel) (by first | omega | exact bi_rng _) (by first | omega | exact bi_rng _) rfl ?_
  refine Wk.cV (q := 433) l_Law_48 m_Mod_depth (by decide +kernel) (fun _ h => h) O_148 rfl (Nat.le_of_ble_eq_true rfl) (Nat.le_of_ble_eq_true rfl) rfl (c_Mod_depth (hx _) (hx _) (hx _) ((MW_eq (hk 149 (by omega))).mpr hI.1.mw) (by rw [hk 148 (by omega)]; exact hI.k16.1) (by rw [hk 148 (by omega)]; exact hI.k16.2)) rfl (fun v2 I2 L2 hP2 => ?_)
  obtain ⟨⟨z2, rfl, hz2⟩, hL⟩ := hP2
  obtain ⟨rfl, hI2⟩ := J_depth hI hz hz2
  exact Wk.icmp_same (off := 403) (t := 836) (by decide +kernel) (by decide) (ih _ _ hI2)
theorem law_tide (hx : ∀ z, -2147483648 ≤ xs.2 z ∧ xs.2 z ≤ 2147483647) (hI : Inv I) (k0 : 0 ≤ k) (k1 : k + 5 ≤ xs.1) (ih : ∀ I' L', Inv I' → Wk xs x_Law_law (d + 13) 0 0 836 [some (vr 1000000), some (vr 0), some (vr 148), some (vi k)] [] X2 I' L' post) : Wk xs x_Law_law (d + 13) 0 0 438 [some (vr 1000000), some (vr 0), some (vr 148), some (vi k)] [] X2 I L post := by
  refine Wk.aload_n (k := 1) (q := 439) (by decide +kernel) rfl rfl rfl ?_
  refine Wk.aload_n (k := 0) (q := 440) (by decide +kernel) rfl rfl rfl ?_
  refine Wk.iload_n (k := 3) (q := 441) (by decide +kernel) rfl rfl rfl ?_
  refine Wk.iconst (n := 1) (q := 442) (by decide +kernel) rfl ?_
  refine Wk.iadd (q := 443) (by decide +kernel) rfl ?_
  refine Wk.ialS (q := 444) (by decide +kernel) (by first | omega | exact bi_rng _) (by first | omega | exact bi_rng _) rfl ?_
  refine Wk.cV (q := 447) l_Law_49 m_Sw_tide (by decide +kernel) (fun _ h => h) O_0 rfl (Nat.le_of_ble_eq_true rfl) (Nat.le_of_ble_eq_true rfl) rfl (c_Sw_tide (hx _) hI.1 hI.2.1) rfl (fun v I1 L1 hP => ?_)
  obtain ⟨z, rfl, hz⟩ := hP
  have hk : ∀ c, 148 ≤ c → I1 c = I c := fun c hc => by
    rcases hz with ⟨-, -, e⟩ | ⟨-, -, Ia, hR, e⟩
    · rw [e]
    · rw [e, iup_other (by omega), hR.hi hI.2.1.1 (by omega)]
  refine Wk.aload_n (k := 2) (q := 448) (by decide +kernel) rfl rfl rfl ?_
  refine Wk.aload_n (k := 0) (q := 449) (by decide +kernel) rfl rfl rfl ?_
  refine Wk.iload_n (k := 3) (q := 450) (by decide +kernel) rfl rfl rfl ?_
  refine Wk.iconst (n := 1) (q := 451) (by decide +kernel) rfl ?_
  refine Wk.iadd (q := 452) (by decide +kernel) rfl ?_
  refine Wk.ialS (q := 453) (by decide +kernel) (by first | omega | exact bi_rng _) (by first | omega | exact bi_rng _) rfl ?_
  refine Wk.cV (q := 456) l_Law_52 m_Mod_tide (by decide +kernel) (fun _ h => h) O_148 rfl (Nat.le_of_ble_eq_true rfl) (Nat.le_of_ble_eq_true rfl) rfl (c_Mod_tide (hx _) ((MW_eq (hk 149 (by omega))).mpr hI.1.mw) (by rw [hk 148 (by omega)]; exact hI.k16.1) (by rw [hk 148 (by omega)]; exact hI.k16.2)) rfl (fun v2 I2 L2 hP2 => ?_)
  obtain ⟨⟨z2, rfl, hz2⟩, hL⟩ := hP2
  obtain ⟨rfl, hI2⟩ := J_tide hI hz hz2
  exact Wk.icmp_same (off := 380) (t := 836) (by decide +kernel) (by decide) (ih _ _ hI2)
theorem law_winds (hx : ∀ z, -2147483648 ≤ xs.2 z ∧ xs.2 z ≤ 2147483647) (hI : Inv I) (k0 : 0 ≤ k) (k1 : k + 5 ≤ xs.1) (ih : ∀ I' L', Inv I' → Wk xs x_Law_law (d + 13) 0 0 836 [some (vr 1000000), some (vr 0), some (vr 148), some (vi k)] [] X2 I' L' post) : Wk xs x_Law_law (d + 13) 0 0 461 [some (vr 1000000), some (vr 0), some (vr 148), some (vi k)] [] X2 I L post := by
  refine Wk.aload_n (k := 1) (q := 462) (by decide +kernel) rfl rfl rfl ?_
  refine Wk.aload_n (k := 0) (q := 463) (by decide +kernel) rfl rfl rfl ?_
  refine Wk.iload_n (k := 3) (q := 464) (by decide +kernel) rfl rfl rfl ?_
  refine Wk.iconst (n := 1) (q := 465) (by decide +kernel) rfl ?_
  refine Wk.iadd (q := 466) (by decide +kernel) rfl ?_
  refine Wk.ialS (q := 467) (by decide +kernel) (by first | omega | exact bi_rng _) (by first | omega | exact bi_rng _) rfl ?_
  refine Wk.cV (q := 470) l_Law_53 m_Sw_winds (by decide +kernel) (fun _ h => h) O_0 rfl (Nat.le_of_ble_eq_true rfl) (Nat.le_of_ble_eq_true rfl) rfl (c_Sw_winds (hx _) hI.1 hI.2.1) rfl (fun v I1 L1 hP => ?_)
  obtain ⟨z, rfl, hz⟩ := hP
  have hk : ∀ c, 148 ≤ c → I1 c = I c := fun c hc => by
    rcases hz with ⟨-, -, e⟩ | ⟨-, -, Ia, hR, e⟩
    · rw [e]
    · rw [e, iup_other (by omega), hR.hi hI.2.1.1 (by omega)]
  refine Wk.aload_n (k := 2) (q := 471) (by decide +kernel) rfl rfl rfl ?_
  refine Wk.aload_n (k := 0) (q := 472) (by decide +kernel) rfl rfl rfl ?_
  refine Wk.iload_n (k := 3) (q := 473) (by decide +kernel) rfl rfl rfl ?_
  refine Wk.iconst (n := 1) (q := 474) (by decide +kernel) rfl ?_
  refine Wk.iadd (q := 475) (by decide +kernel) rfl ?_
  refine Wk.ialS (q := 476) (by decide +kernel) (by first | omega | exact bi_rng _) (by first | omega | exact bi_rng _) rfl ?_
  refine Wk.cV (q := 479) l_Law_56 m_Mod_winds (by decide +kernel) (fun _ h => h) O_148 rfl (Nat.le_of_ble_eq_true rfl) (Nat.le_of_ble_eq_true rfl) rfl (c_Mod_winds (hx _) ((MW_eq (hk 149 (by omega))).mpr hI.1.mw) (by rw [hk 148 (by omega)]; exact hI.k16.1) (by rw [hk 148 (by omega)]; exact hI.k16.2)) rfl (fun v2 I2 L2 hP2 => ?_)
  obtain ⟨⟨z2, rfl, hz2⟩, hL⟩ := hP2
  obtain ⟨rfl, hI2⟩ := J_winds hI hz hz2
  exact Wk.icmp_same (off := 357) (t := 836) (by decide +kernel) (by decide) (ih _ _ hI2)
theorem law_arrive (hx : ∀ z, -2147483648 ≤ xs.2 z ∧ xs.2 z ≤ 2147483647) (hI : Inv I) (k0 : 0 ≤ k) (k1 : k + 5 ≤ xs.1) (ih : ∀ I' L', Inv I' → Wk xs x_Law_law (d + 13) 0 0 836 [some (vr 1000000), some (vr 0), some (vr 148), some (vi k)] [] X2 I' L' post) : Wk xs x_Law_law (d + 13) 0 0 484 [some (vr 1000000), some (vr 0), some (vr 148), some (vi k)] [] X2 I L post := by
  refine Wk.aload_n (k := 1) (q := 485) (by decide +kernel) rfl rfl rfl ?_
  refine Wk.aload_n (k := 0) (q := 486) (by decide +kernel) rfl rfl rfl ?_
  refine Wk.iload_n (k := 3) (q := 487) (by decide +kernel) rfl rfl rfl ?_
  refine Wk.iconst (n := 1) (q := 488) (by decide +kernel) rfl ?_
  refine Wk.iadd (q := 489) (by decide +kernel) rfl ?_
  refine Wk.ialS (q := 490) (by decide +kernel) (by first | omega | exact bi_rng _) (by first | omega | exact bi_rng _) rfl ?_
  refine Wk.aload_n (k := 0) (q := 491) (by decide +kernel) rfl rfl rfl ?_
  refine Wk.iload_n (k := 3) (q := 492) (by decide +kernel) rfl rfl rfl ?_
  refine Wk.iconst (n := 2) (q := 493) (by decide +kernel) rfl ?_
  refine Wk.iadd (q := 494) (by decide +kernel) rfl ?_
  refine Wk.ialS (q := 495) (by decide +kernel) (by first | omega | exact bi_rng _) (by first | omega | exact bi_rng _) rfl ?_
  refine Wk.aload_n (k := 0) (q := 496) (by decide +kernel) rfl rfl rfl ?_
  refine Wk.iload_n (k := 3) (q := 497) (by decide +kernel) rfl rfl rfl ?_
  refine Wk.iconst (n := 3) (q := 498) (by decide +kernel) rfl ?_
  refine Wk.iadd (q := 499) (by decide +kernel) rfl ?_
  refine Wk.ialS (q := 500) (by decide +kernel) (by first | omega | exact bi_rng _) (by first | omega | exact bi_rng _) rfl ?_
  refine Wk.cV (q := 503) l_Law_57 m_Sw_arrive (by decide +kernel) (fun _ h => h) O_0 rfl (Nat.le_of_ble_eq_true rfl) (Nat.le_of_ble_eq_true rfl) rfl (c_Sw_arrive (hx _) (hx _) (hx _) hI.1 hI.2.1) rfl (fun v I1 L1 hP => ?_)
  obtain ⟨z, rfl, hz⟩ := hP
  have hk : ∀ c, 148 ≤ c → I1 c = I c := fun c hc => by
    rcases hz with ⟨-, -, e⟩ | ⟨-, -, -, e⟩ | ⟨-, -, -, Ia, hR, e⟩
    · rw [e]
    · rw [e]
    · rw [e, iup_other (by omega), iup_other (by omega), iup_other (by omega), iup_other (by omega), hR.hi hI.2.1.1 (by omega)]
  refine Wk.aload_n (k := 2) (q := 504) (by decide +kernel) rfl rfl rfl ?_
  refine Wk.aload_n (k := 0) (q := 505) (by decide +kernel) rfl rfl rfl ?_
  refine Wk.iload_n (k := 3) (q := 506) (by decide +kernel) rfl rfl rfl ?_
  refine Wk.iconst (n := 1) (q := 507) (by decide +kernel) rfl ?_
  refine Wk.iadd (q := 508) (by decide +kernel) rfl ?_
  refine Wk.ialS (q := 509) (by decide +kernel) (by first | omega | exact bi_rng _) (by first | omega | exact bi_rng _) rfl ?_
  refine Wk.aload_n (k := 0) (q := 510) (by decide +kernel) rfl rfl rfl ?_
  refine Wk.iload_n (k := 3) (q := 511) (by decide +kernel) rfl rfl rfl ?_
  refine Wk.iconst (n := 2) (q := 512) (by decide +kernel) rfl ?_
  refine Wk.iadd (q := 513) (by decide +kernel) rfl ?_
  refine Wk.ialS (q := 514) (by decide +kernel) (by first | omega | exact bi_rng _) (by first | omega | exact bi_rng _) rfl ?_
  refine Wk.aload_n (k := 0) (q := 515) (by decide +kernel) rfl rfl rfl ?_
  refine Wk.iload_n (k := 3) (q := 516) (by decide +kernel) rfl rfl rfl ?_
  refine Wk.iconst (n := 3) (q := 517) (by decide +kernel) rfl ?_
  refine Wk.iadd (q := 518) (by decide +kernel) rfl ?_
  refine Wk.ialS (q := 519) (by decide +kernel) (by first | omega | exact bi_rng _) (by first | omega | exact bi_rng _) rfl ?_
  refine Wk.cV (q := 522) l_Law_60 m_Mod_arrive (by decide +kernel) (fun _ h => h) O_148 rfl (Nat.le_of_ble_eq_true rfl) (Nat.le_of_ble_eq_true rfl) rfl (c_Mod_arrive (hx _) (hx _) (hx _) ((MW_eq (hk 149 (by omega))).mpr hI.1.mw) (by rw [hk 148 (by omega)]; exact hI.k16.1) (by rw [hk 148 (by omega)]; exact hI.k16.2)) rfl (fun v2 I2 L2 hP2 => ?_)
  obtain ⟨⟨z2, rfl, hz2⟩, hL⟩ := hP2
  obtain ⟨rfl, hI2⟩ := J_arrive hI hz hz2
  exact Wk.icmp_same (off := 314) (t := 836) (by decide +kernel) (by decide) (ih _ _ hI2)
theorem law_anchor (hx : ∀ z, -2147483648 ≤ xs.2 z ∧ xs.2 z ≤ 2147483647) (hI : Inv I) (k0 : 0 ≤ k) (k1 : k + 5 ≤ xs.1) (ih : ∀ I' L', Inv I' → Wk xs x_Law_law (d + 13) 0 0 836 [some (vr 1000000), some (vr 0), some (vr 148), some (vi k)] [] X2 I' L' post) : Wk xs x_Law_law (d + 13) 0 0 527 [some (vr 1000000), some (vr 0), some (vr 148), some (vi k)] [] X2 I L post := by
  refine Wk.aload_n (k := 1) (q := 528) (by decide +kernel) rfl rfl rfl ?_
  refine Wk.aload_n (k := 0) (q := 529) (by decide +kernel) rfl rfl rfl ?_
  refine Wk.iload_n (k := 3) (q := 530) (by decide +kernel) rfl rfl rfl ?_
  refine Wk.iconst (n := 1) (q := 531) (by decide +kernel) rfl ?_
  refine Wk.iadd (q := 532) (by decide +kernel) rfl ?_
  refine Wk.ialS (q := 533) (by decide +kernel) (by first | omega | exact bi_rng _) (by first | omega | exact bi_rng _) rfl ?_
  refine Wk.aload_n (k := 0) (q := 534) (by decide +kernel) rfl rfl rfl ?_
  refine Wk.iload_n (k := 3) (q := 535) (by decide +kernel) rfl rfl rfl ?_
  refine Wk.iconst (n := 2) (q := 536) (by decide +kernel) rfl ?_
  refine Wk.iadd (q := 537) (by decide +kernel) rfl ?_
  refine Wk.ialS (q := 538) (by decide +kernel) (by first | omega | exact bi_rng _) (by first | omega | exact bi_rng _) rfl ?_
  refine Wk.aload_n (k := 0) (q := 539) (by decide +kernel) rfl rfl rfl ?_
  refine Wk.iload_n (k := 3) (q := 540) (by decide +kernel) rfl rfl rfl ?_
  refine Wk.iconst (n := 3) (q := 541) (by decide +kernel) rfl ?_
  refine Wk.iadd (q := 542) (by decide +kernel) rfl ?_
  refine Wk.ialS (q := 543) (by decide +kernel) (by first | omega | exact bi_rng _) (by first | omega | exact bi_rng _) rfl ?_
  refine Wk.cV (q := 546) l_Law_61 m_Sw_anchor (by decide +kernel) (fun _ h => h) O_0 rfl (Nat.le_of_ble_eq_true rfl) (Nat.le_of_ble_eq_true rfl) rfl (c_Sw_anchor (hx _) (hx _) (hx _) hI.1 hI.2.1) rfl (fun v I1 L1 hP => ?_)
  obtain ⟨z, rfl, hz⟩ := hP
  have hk : ∀ c, 148 ≤ c → I1 c = I c := fun c hc => by
    rcases hz with ⟨-, -, e⟩ | ⟨-, -, -, e⟩ | ⟨-, -, -, -, e⟩ | ⟨-, -, -, -, Ia, hR, e⟩
    · rw [e]
    · rw [e]
    · rw [e]
    · rw [e, toAnch_o (by omega), hR.hi hI.2.1.1 (by omega)]
  refine Wk.aload_n (k := 2) (q := 547) (by decide +kernel) rfl rfl rfl ?_
  refine Wk.aload_n (k := 0) (q := 548) (by decide +kernel) rfl rfl rfl ?_
  refine Wk.iload_n (k := 3) (q := 549) (by decide +kernel) rfl rfl rfl ?_
  refine Wk.iconst (n := 1) (q := 550) (by decide +kernel) rfl ?_
  refine Wk.iadd (q := 551) (by decide +kernel) rfl ?_
  refine Wk.ialS (q := 552) (by decide +kernel) (by first | omega | exact bi_rng _) (by first | omega | exact bi_rng _) rfl ?_
  refine Wk.aload_n (k := 0) (q := 553) (by decide +kernel) rfl rfl rfl ?_
  refine Wk.iload_n (k := 3) (q := 554) (by decide +kernel) rfl rfl rfl ?_
  refine Wk.iconst (n := 2) (q := 555) (by decide +kernel) rfl ?_
  refine Wk.iadd (q := 556) (by decide +kernel) rfl ?_
  refine Wk.ialS (q := 557) (by decide +kernel) (by first | omega | exact bi_rng _) (by first | omega | exact bi_rng _) rfl ?_
  refine Wk.aload_n (k := 0) (q := 558) (by decide +kernel) rfl rfl rfl ?_
  refine Wk.iload_n (k := 3) (q := 559) (by decide +kernel) rfl rfl rfl ?_
  refine Wk.iconst (n := 3) (q := 560) (by decide +kernel) rfl ?_
  refine Wk.iadd (q := 561) (by decide +kernel) rfl ?_
  refine Wk.ialS (q := 562) (by decide +kernel) (by first | omega | exact bi_rng _) (by first | omega | exact bi_rng _) rfl ?_
  refine Wk.cV (q := 565) l_Law_64 m_Mod_anchor (by decide +kernel) (fun _ h => h) O_148 rfl (Nat.le_of_ble_eq_true rfl) (Nat.le_of_ble_eq_true rfl) rfl (c_Mod_anchor (hx _) (hx _) (hx _) ((MW_eq (hk 149 (by omega))).mpr hI.1.mw) (by rw [hk 148 (by omega)]; exact hI.k16.1) (by rw [hk 148 (by omega)]; exact hI.k16.2)) rfl (fun v2 I2 L2 hP2 => ?_)
  obtain ⟨⟨z2, rfl, hz2⟩, hL⟩ := hP2
  obtain ⟨rfl, hI2⟩ := J_anchor hI hz hz2
  exact Wk.icmp_same (off := 271) (t := 836) (by decide +kernel) (by decide) (ih _ _ hI2)
theorem law_fit (hx : ∀ z, -2147483648 ≤ xs.2 z ∧ xs.2 z ≤ 2147483647) (hI : Inv I) (k0 : 0 ≤ k) (k1 : k + 5 ≤ xs.1) (ih : ∀ I' L', Inv I' → Wk xs x_Law_law (d + 13) 0 0 836 [some (vr 1000000), some (vr 0), some (vr 148), some (vi k)] [] X2 I' L' post) : Wk xs x_Law_law (d + 13) 0 0 570 [some (vr 1000000), some (vr 0), some (vr 148), some (vi k)] [] X2 I L post := by
  refine Wk.aload_n (k := 1) (q := 571) (by decide +kernel) rfl rfl rfl ?_
  refine Wk.aload_n (k := 0) (q := 572) (by decide +kernel) rfl rfl rfl ?_
  refine Wk.iload_n (k := 3) (q := 573) (by decide +kernel) rfl rfl rfl ?_
  refine Wk.iconst (n := 1) (q := 574) (by decide +kernel) rfl ?_
  refine Wk.iadd (q := 575) (by decide +kernel) rfl ?_
  refine Wk.ialS (q := 576) (by decide +kernel) (by first | omega | exact bi_rng _) (by first | omega | exact bi_rng _) rfl ?_
  refine Wk.cV (q := 579) l_Law_65 m_Sw_fit (by decide +kernel) (fun _ h => h) O_0 rfl (Nat.le_of_ble_eq_true rfl) (Nat.le_of_ble_eq_true rfl) rfl (c_Sw_fit (hx _) hI.1 hI.2.1) rfl (fun v I1 L1 hP => ?_)
  obtain ⟨z, rfl, hz⟩ := hP
  have hk : ∀ c, 148 ≤ c → I1 c = I c := fun c hc => by
    rcases hz with ⟨-, -, e⟩ | ⟨-, u, s, -, -, ⟨-, -, e⟩ | ⟨-, -, -, e⟩ | ⟨-, -, -, Ia, hR, e⟩⟩
    · rw [e]
    · rw [e]
    · rw [e]
    · rw [e, toAnch_o (by omega), hR.hi hI.2.1.1 (by omega)]
  refine Wk.aload_n (k := 2) (q := 580) (by decide +kernel) rfl rfl rfl ?_
  refine Wk.aload_n (k := 0) (q := 581) (by decide +kernel) rfl rfl rfl ?_
  refine Wk.iload_n (k := 3) (q := 582) (by decide +kernel) rfl rfl rfl ?_
  refine Wk.iconst (n := 1) (q := 583) (by decide +kernel) rfl ?_
  refine Wk.iadd (q := 584) (by decide +kernel) rfl ?_
  refine Wk.ialS (q := 585) (by decide +kernel) (by first | omega | exact bi_rng _) (by first | omega | exact bi_rng _) rfl ?_
  refine Wk.cV (q := 588) l_Law_68 m_Mod_fit (by decide +kernel) (fun _ h => h) O_148 rfl (Nat.le_of_ble_eq_true rfl) (Nat.le_of_ble_eq_true rfl) rfl (c_Mod_fit (hx _) ((MW_eq (hk 149 (by omega))).mpr hI.1.mw) (by rw [hk 148 (by omega)]; exact hI.k16.1) (by rw [hk 148 (by omega)]; exact hI.k16.2)) rfl (fun v2 I2 L2 hP2 => ?_)
  obtain ⟨⟨z2, rfl, hz2⟩, hL⟩ := hP2
  obtain ⟨rfl, hI2⟩ := J_fit hI hz hz2
  exact Wk.icmp_same (off := 248) (t := 836) (by decide +kernel) (by decide) (ih _ _ hI2)
theorem law_fitAll (hx : ∀ z, -2147483648 ≤ xs.2 z ∧ xs.2 z ≤ 2147483647) (hI : Inv I) (k0 : 0 ≤ k) (k1 : k + 5 ≤ xs.1) (ih : ∀ I' L', Inv I' → Wk xs x_Law_law (d + 13) 0 0 836 [some (vr 1000000), some (vr 0), some (vr 148), some (vi k)] [] X2 I' L' post) : Wk xs x_Law_law (d + 13) 0 0 593 [some (vr 1000000), some (vr 0), some (vr 148), some (vi k)] [] X2 I L post := by
  refine Wk.aload_n (k := 1) (q := 594) (by decide +kernel) rfl rfl rfl ?_
  refine Wk.cV (q := 597) l_Law_69 m_Sw_fitAll (by decide +kernel) (fun _ h => h) O_0 rfl (Nat.le_of_ble_eq_true rfl) (Nat.le_of_ble_eq_true rfl) rfl (c_Sw_fitAll  hI.1 hI.2.1) rfl (fun v I1 L1 hP => ?_)
  obtain ⟨z, rfl, hz⟩ := hP
  have hk : ∀ c, 148 ≤ c → I1 c = I c := fun c hc => by
    rcases hz with ⟨-, -, e⟩ | ⟨-, J, hJ, -, ⟨-, -, e⟩ | ⟨-, -, Ia, hR, e⟩⟩
    · exact e c (by omega) (by omega) (by omega)
    · rw [e]; exact hJ c (by omega) (by omega) (by omega)
    · rw [e, (fa_n _ _ _).2.2 c (by omega), hR.hi (Inv_frs hJ hI).2.1.1 (by omega)]; exact hJ c (by omega) (by omega) (by omega)
  refine Wk.aload_n (k := 2) (q := 598) (by decide +kernel) rfl rfl rfl ?_
  refine Wk.cV (q := 601) l_Law_73 m_Mod_fitAll (by decide +kernel) (fun _ h => h) O_148 rfl (Nat.le_of_ble_eq_true rfl) (Nat.le_of_ble_eq_true rfl) rfl (c_Mod_fitAll  ((MW_eq (hk 149 (by omega))).mpr hI.1.mw) (by rw [hk 148 (by omega)]; exact hI.k16.1) (by rw [hk 148 (by omega)]; exact hI.k16.2)) rfl (fun v2 I2 L2 hP2 => ?_)
  obtain ⟨⟨z2, rfl, hz2⟩, hL⟩ := hP2
  obtain ⟨rfl, hI2⟩ := J_fitAll hI hz hz2
  exact Wk.icmp_same (off := 235) (t := 836) (by decide +kernel) (by decide) (ih _ _ hI2)
theorem law_shift (hx : ∀ z, -2147483648 ≤ xs.2 z ∧ xs.2 z ≤ 2147483647) (hI : Inv I) (k0 : 0 ≤ k) (k1 : k + 5 ≤ xs.1) (ih : ∀ I' L', Inv I' → Wk xs x_Law_law (d + 13) 0 0 836 [some (vr 1000000), some (vr 0), some (vr 148), some (vi k)] [] X2 I' L' post) : Wk xs x_Law_law (d + 13) 0 0 606 [some (vr 1000000), some (vr 0), some (vr 148), some (vi k)] [] X2 I L post := by
  refine Wk.aload_n (k := 1) (q := 607) (by decide +kernel) rfl rfl rfl ?_
  refine Wk.aload_n (k := 0) (q := 608) (by decide +kernel) rfl rfl rfl ?_
  refine Wk.iload_n (k := 3) (q := 609) (by decide +kernel) rfl rfl rfl ?_
  refine Wk.iconst (n := 1) (q := 610) (by decide +kernel) rfl ?_
  refine Wk.iadd (q := 611) (by decide +kernel) rfl ?_
  refine Wk.ialS (q := 612) (by decide +kernel) (by first | omega | exact bi_rng _) (by first | omega | exact bi_rng _) rfl ?_
  refine Wk.cV (q := 615) l_Law_74 m_Sw_shift (by decide +kernel) (fun _ h => h) O_0 rfl (Nat.le_of_ble_eq_true rfl) (Nat.le_of_ble_eq_true rfl) rfl (c_Sw_shift (hx _) hI.1 hI.2.1) rfl (fun v I1 L1 hP => ?_)
  obtain ⟨z, rfl, hz⟩ := hP
  have hk : ∀ c, 148 ≤ c → I1 c = I c := fun c hc => by
    rcases hz with ⟨-, -, e⟩ | ⟨-, ⟨-, -, e⟩ | ⟨J, set, R, hJ, -, ⟨-, -, e⟩ | ⟨-, -, Ia, hR, e⟩⟩⟩
    · rw [e]
    · exact e c (by omega) (by omega) (by omega)
    · rw [e]; exact hJ c (by omega) (by omega) (by omega)
    · rw [e, toAnch_o (by omega), sa_o _ _ _ (by omega) (by omega), hR.hi (Inv_frs hJ hI).2.1.1 (by omega)]; exact hJ c (by omega) (by omega) (by omega)
  refine Wk.aload_n (k := 2) (q := 616) (by decide +kernel) rfl rfl rfl ?_
  refine Wk.aload_n (k := 0) (q := 617) (by decide +kernel) rfl rfl rfl ?_
  refine Wk.iload_n (k := 3) (q := 618) (by decide +kernel) rfl rfl rfl ?_
  refine Wk.iconst (n := 1) (q := 619) (by decide +kernel) rfl ?_
  refine Wk.iadd (q := 620) (by decide +kernel) rfl ?_
  refine Wk.ialS (q := 621) (by decide +kernel) (by first | omega | exact bi_rng _) (by first | omega | exact bi_rng _) rfl ?_
  refine Wk.cV (q := 624) l_Law_77 m_Mod_shift (by decide +kernel) (fun _ h => h) O_148 rfl (Nat.le_of_ble_eq_true rfl) (Nat.le_of_ble_eq_true rfl) rfl (c_Mod_shift (hx _) ((MW_eq (hk 149 (by omega))).mpr hI.1.mw) (by rw [hk 148 (by omega)]; exact hI.k16.1) (by rw [hk 148 (by omega)]; exact hI.k16.2)) rfl (fun v2 I2 L2 hP2 => ?_)
  obtain ⟨⟨z2, rfl, hz2⟩, hL⟩ := hP2
  obtain ⟨rfl, hI2⟩ := J_shift hI hz hz2
  exact Wk.icmp_same (off := 212) (t := 836) (by decide +kernel) (by decide) (ih _ _ hI2)
theorem law_leave (hx : ∀ z, -2147483648 ≤ xs.2 z ∧ xs.2 z ≤ 2147483647) (hI : Inv I) (k0 : 0 ≤ k) (k1 : k + 5 ≤ xs.1) (ih : ∀ I' L', Inv I' → Wk xs x_Law_law (d + 13) 0 0 836 [some (vr 1000000), some (vr 0), some (vr 148), some (vi k)] [] X2 I' L' post) : Wk xs x_Law_law (d + 13) 0 0 629 [some (vr 1000000), some (vr 0), some (vr 148), some (vi k)] [] X2 I L post := by
  refine Wk.aload_n (k := 1) (q := 630) (by decide +kernel) rfl rfl rfl ?_
  refine Wk.aload_n (k := 0) (q := 631) (by decide +kernel) rfl rfl rfl ?_
  refine Wk.iload_n (k := 3) (q := 632) (by decide +kernel) rfl rfl rfl ?_
  refine Wk.iconst (n := 1) (q := 633) (by decide +kernel) rfl ?_
  refine Wk.iadd (q := 634) (by decide +kernel) rfl ?_
  refine Wk.ialS (q := 635) (by decide +kernel) (by first | omega | exact bi_rng _) (by first | omega | exact bi_rng _) rfl ?_
  refine Wk.cV (q := 638) l_Law_78 m_Sw_leave (by decide +kernel) (fun _ h => h) O_0 rfl (Nat.le_of_ble_eq_true rfl) (Nat.le_of_ble_eq_true rfl) rfl (c_Sw_leave (hx _) hI.1 hI.2.1) rfl (fun v I1 L1 hP => ?_)
  obtain ⟨z, rfl, hz⟩ := hP
  have hk : ∀ c, 148 ≤ c → I1 c = I c := fun c hc => by
    rcases hz with ⟨-, -, e⟩ | ⟨-, -, Ia, hR, e⟩
    · rw [e]
    · rw [e, dropA_hi (by omega), hR.hi hI.2.1.1 (by omega)]
  refine Wk.aload_n (k := 2) (q := 639) (by decide +kernel) rfl rfl rfl ?_
  refine Wk.aload_n (k := 0) (q := 640) (by decide +kernel) rfl rfl rfl ?_
  refine Wk.iload_n (k := 3) (q := 641) (by decide +kernel) rfl rfl rfl ?_
  refine Wk.iconst (n := 1) (q := 642) (by decide +kernel) rfl ?_
  refine Wk.iadd (q := 643) (by decide +kernel) rfl ?_
  refine Wk.ialS (q := 644) (by decide +kernel) (by first | omega | exact bi_rng _) (by first | omega | exact bi_rng _) rfl ?_
  refine Wk.cV (q := 647) l_Law_81 m_Mod_leave (by decide +kernel) (fun _ h => h) O_148 rfl (Nat.le_of_ble_eq_true rfl) (Nat.le_of_ble_eq_true rfl) rfl (c_Mod_leave (hx _) ((MW_eq (hk 149 (by omega))).mpr hI.1.mw) (by rw [hk 148 (by omega)]; exact hI.k16.1) (by rw [hk 148 (by omega)]; exact hI.k16.2)) rfl (fun v2 I2 L2 hP2 => ?_)
  obtain ⟨⟨z2, rfl, hz2⟩, hL⟩ := hP2
  obtain ⟨rfl, hI2⟩ := J_leave hI hz hz2
  exact Wk.icmp_same (off := 189) (t := 836) (by decide +kernel) (by decide) (ih _ _ hI2)
theorem law_turnAway (hx : ∀ z, -2147483648 ≤ xs.2 z ∧ xs.2 z ≤ 2147483647) (hI : Inv I) (k0 : 0 ≤ k) (k1 : k + 5 ≤ xs.1) (ih : ∀ I' L', Inv I' → Wk xs x_Law_law (d + 13) 0 0 836 [some (vr 1000000), some (vr 0), some (vr 148), some (vi k)] [] X2 I' L' post) : Wk xs x_Law_law (d + 13) 0 0 652 [some (vr 1000000), some (vr 0), some (vr 148), some (vi k)] [] X2 I L post := by
  refine Wk.aload_n (k := 1) (q := 653) (by decide +kernel) rfl rfl rfl ?_
  refine Wk.aload_n (k := 0) (q := 654) (by decide +kernel) rfl rfl rfl ?_
  refine Wk.iload_n (k := 3) (q := 655) (by decide +kernel) rfl rfl rfl ?_
  refine Wk.iconst (n := 1) (q := 656) (by decide +kernel) rfl ?_
  refine Wk.iadd (q := 657) (by decide +kernel) rfl ?_
  refine Wk.ialS (q := 658) (by decide +kernel) (by first | omega | exact bi_rng _) (by first | omega | exact bi_rng _) rfl ?_
  refine Wk.cV (q := 661) l_Law_82 m_Sw_turnAway (by decide +kernel) (fun _ h => h) O_0 rfl (Nat.le_of_ble_eq_true rfl) (Nat.le_of_ble_eq_true rfl) rfl (c_Sw_turnAway (hx _) hI.1 hI.2.1) rfl (fun v I1 L1 hP => ?_)
  obtain ⟨z, rfl, hz⟩ := hP
  have hk : ∀ c, 148 ≤ c → I1 c = I c := fun c hc => by
    rcases hz with ⟨-, -, e⟩ | ⟨-, -, Ia, hR, e⟩
    · rw [e]
    · rw [e, dropW_hi (by omega), hR.hi hI.2.1.1 (by omega)]
  refine Wk.aload_n (k := 2) (q := 662) (by decide +kernel) rfl rfl rfl ?_
  refine Wk.aload_n (k := 0) (q := 663) (by decide +kernel) rfl rfl rfl ?_
  refine Wk.iload_n (k := 3) (q := 664) (by decide +kernel) rfl rfl rfl ?_
  refine Wk.iconst (n := 1) (q := 665) (by decide +kernel) rfl ?_
  refine Wk.iadd (q := 666) (by decide +kernel) rfl ?_
  refine Wk.ialS (q := 667) (by decide +kernel) (by first | omega | exact bi_rng _) (by first | omega | exact bi_rng _) rfl ?_
  refine Wk.cV (q := 670) l_Law_85 m_Mod_turnAway (by decide +kernel) (fun _ h => h) O_148 rfl (Nat.le_of_ble_eq_true rfl) (Nat.le_of_ble_eq_true rfl) rfl (c_Mod_turnAway (hx _) ((MW_eq (hk 149 (by omega))).mpr hI.1.mw) (by rw [hk 148 (by omega)]; exact hI.k16.1) (by rw [hk 148 (by omega)]; exact hI.k16.2)) rfl (fun v2 I2 L2 hP2 => ?_)
  obtain ⟨⟨z2, rfl, hz2⟩, hL⟩ := hP2
  obtain ⟨rfl, hI2⟩ := J_turnAway hI hz hz2
  exact Wk.icmp_same (off := 166) (t := 836) (by decide +kernel) (by decide) (ih _ _ hI2)
theorem law_drift (hx : ∀ z, -2147483648 ≤ xs.2 z ∧ xs.2 z ≤ 2147483647) (hI : Inv I) (k0 : 0 ≤ k) (k1 : k + 5 ≤ xs.1) (ih : ∀ I' L', Inv I' → Wk xs x_Law_law (d + 13) 0 0 836 [some (vr 1000000), some (vr 0), some (vr 148), some (vi k)] [] X2 I' L' post) : Wk xs x_Law_law (d + 13) 0 0 675 [some (vr 1000000), some (vr 0), some (vr 148), some (vi k)] [] X2 I L post := by
  refine Wk.aload_n (k := 1) (q := 676) (by decide +kernel) rfl rfl rfl ?_
  refine Wk.aload_n (k := 0) (q := 677) (by decide +kernel) rfl rfl rfl ?_
  refine Wk.iload_n (k := 3) (q := 678) (by decide +kernel) rfl rfl rfl ?_
  refine Wk.iconst (n := 1) (q := 679) (by decide +kernel) rfl ?_
  refine Wk.iadd (q := 680) (by decide +kernel) rfl ?_
  refine Wk.ialS (q := 681) (by decide +kernel) (by first | omega | exact bi_rng _) (by first | omega | exact bi_rng _) rfl ?_
  refine Wk.cV (q := 684) l_Law_86 m_Sw_drift (by decide +kernel) (fun _ h => h) O_0 rfl (Nat.le_of_ble_eq_true rfl) (Nat.le_of_ble_eq_true rfl) rfl (c_Sw_drift (hx _) ⟨hI.1.1, hI.2.1.1, hI.2.1.2.1⟩) rfl (fun v I1 L1 hP => ?_)
  obtain ⟨z, rfl, hz⟩ := hP
  have hk : ∀ c, 148 ≤ c → I1 c = I c := fun c hc => by
    rcases hz with ⟨-, -, e⟩ | ⟨-, hd, -⟩
    · rw [e]
    · exact (dC_hi ⟨hI.1.1, hI.2.1.1, hI.2.1.2.1⟩ _ _ hd).2 c hc
  refine Wk.aload_n (k := 2) (q := 685) (by decide +kernel) rfl rfl rfl ?_
  refine Wk.aload_n (k := 0) (q := 686) (by decide +kernel) rfl rfl rfl ?_
  refine Wk.iload_n (k := 3) (q := 687) (by decide +kernel) rfl rfl rfl ?_
  refine Wk.iconst (n := 1) (q := 688) (by decide +kernel) rfl ?_
  refine Wk.iadd (q := 689) (by decide +kernel) rfl ?_
  refine Wk.ialS (q := 690) (by decide +kernel) (by first | omega | exact bi_rng _) (by first | omega | exact bi_rng _) rfl ?_
  refine Wk.cV (q := 693) l_Law_89 m_Mod_drift (by decide +kernel) (fun _ h => h) O_148 rfl (Nat.le_of_ble_eq_true rfl) (Nat.le_of_ble_eq_true rfl) rfl (c_Mod_drift (hx _) ⟨((MW_eq (hk 149 (by omega))).mpr hI.1.mw), by rw [hk 148 (by omega)]; exact hI.k16, by rw [hk 148 (by omega)]; exact hI.2.2.2.1.2⟩) rfl (fun v2 I2 L2 hP2 => ?_)
  obtain ⟨⟨z2, rfl, hz2⟩, hL⟩ := hP2
  obtain ⟨rfl, hI2⟩ := J_drift hI hz hz2
  exact Wk.icmp_same (off := 143) (t := 836) (by decide +kernel) (by decide) (ih _ _ hI2)
theorem law_undo (hx : ∀ z, -2147483648 ≤ xs.2 z ∧ xs.2 z ≤ 2147483647) (hI : Inv I) (k0 : 0 ≤ k) (k1 : k + 5 ≤ xs.1) (ih : ∀ I' L', Inv I' → Wk xs x_Law_law (d + 13) 0 0 836 [some (vr 1000000), some (vr 0), some (vr 148), some (vi k)] [] X2 I' L' post) : Wk xs x_Law_law (d + 13) 0 0 698 [some (vr 1000000), some (vr 0), some (vr 148), some (vi k)] [] X2 I L post := by
  refine Wk.aload_n (k := 1) (q := 699) (by decide +kernel) rfl rfl rfl ?_
  refine Wk.aload_n (k := 0) (q := 700) (by decide +kernel) rfl rfl rfl ?_
  refine Wk.iload_n (k := 3) (q := 701) (by decide +kernel) rfl rfl rfl ?_
  refine Wk.iconst (n := 1) (q := 702) (by decide +kernel) rfl ?_
  refine Wk.iadd (q := 703) (by decide +kernel) rfl ?_
  refine Wk.ialS (q := 704) (by decide +kernel) (by first | omega | exact bi_rng _) (by first | omega | exact bi_rng _) rfl ?_
  refine Wk.cV (q := 707) l_Law_90 m_Sw_undo (by decide +kernel) (fun _ h => h) O_0 rfl (Nat.le_of_ble_eq_true rfl) (Nat.le_of_ble_eq_true rfl) rfl (c_Sw_undo (hx _) hI.1 hI.2.1) rfl (fun v I1 L1 hP => ?_)
  obtain ⟨z, rfl, hz⟩ := hP
  have hk : ∀ c, 148 ≤ c → I1 c = I c := fun c hc => by
    rcases hz with ⟨-, -, e⟩ | ⟨-, -, -, e⟩ | ⟨-, -, -, e⟩
    · rw [e]
    · rw [e]
    · rw [e.2.2 c (by omega), iup_other (by omega), iup_other (by omega)]
  refine Wk.aload_n (k := 2) (q := 708) (by decide +kernel) rfl rfl rfl ?_
  refine Wk.aload_n (k := 0) (q := 709) (by decide +kernel) rfl rfl rfl ?_
  refine Wk.iload_n (k := 3) (q := 710) (by decide +kernel) rfl rfl rfl ?_
  refine Wk.iconst (n := 1) (q := 711) (by decide +kernel) rfl ?_
  refine Wk.iadd (q := 712) (by decide +kernel) rfl ?_
  refine Wk.ialS (q := 713) (by decide +kernel) (by first | omega | exact bi_rng _) (by first | omega | exact bi_rng _) rfl ?_
  refine Wk.cV (q := 716) l_Law_93 m_Mod_undo (by decide +kernel) (fun _ h => h) O_148 rfl (Nat.le_of_ble_eq_true rfl) (Nat.le_of_ble_eq_true rfl) rfl (c_Mod_undo (hx _) ((MW_eq (hk 149 (by omega))).mpr hI.1.mw) (by rw [hk 148 (by omega)]; exact hI.k16.1) (by rw [hk 148 (by omega)]; exact hI.k16.2)) rfl (fun v2 I2 L2 hP2 => ?_)
  obtain ⟨⟨z2, rfl, hz2⟩, hL⟩ := hP2
  obtain ⟨rfl, hI2⟩ := J_undo hI hz hz2
  exact Wk.icmp_same (off := 120) (t := 836) (by decide +kernel) (by decide) (ih _ _ hI2)
theorem law_write (hx : ∀ z, -2147483648 ≤ xs.2 z ∧ xs.2 z ≤ 2147483647) (hI : Inv I) (k0 : 0 ≤ k) (k1 : k + 5 ≤ xs.1) (ih : ∀ I' L', Inv I' → Wk xs x_Law_law (d + 13) 0 0 836 [some (vr 1000000), some (vr 0), some (vr 148), some (vi k)] [] X2 I' L' post) : Wk xs x_Law_law (d + 13) 0 0 721 [some (vr 1000000), some (vr 0), some (vr 148), some (vi k)] [] X2 I L post := by
  refine Wk.aload_n (k := 1) (q := 722) (by decide +kernel) rfl rfl rfl ?_
  refine Wk.aload_n (k := 0) (q := 723) (by decide +kernel) rfl rfl rfl ?_
  refine Wk.iload_n (k := 3) (q := 724) (by decide +kernel) rfl rfl rfl ?_
  refine Wk.iconst (n := 1) (q := 725) (by decide +kernel) rfl ?_
  refine Wk.iadd (q := 726) (by decide +kernel) rfl ?_
  refine Wk.ialS (q := 727) (by decide +kernel) (by first | omega | exact bi_rng _) (by first | omega | exact bi_rng _) rfl ?_
  refine Wk.aload_n (k := 0) (q := 728) (by decide +kernel) rfl rfl rfl ?_
  refine Wk.iload_n (k := 3) (q := 729) (by decide +kernel) rfl rfl rfl ?_
  refine Wk.iconst (n := 2) (q := 730) (by decide +kernel) rfl ?_
  refine Wk.iadd (q := 731) (by decide +kernel) rfl ?_
  refine Wk.ialS (q := 732) (by decide +kernel) (by first | omega | exact bi_rng _) (by first | omega | exact bi_rng _) rfl ?_
  refine Wk.cV (q := 735) l_Law_94 m_Sw_write (by decide +kernel) (fun _ h => h) O_0 rfl (Nat.le_of_ble_eq_true rfl) (Nat.le_of_ble_eq_true rfl) rfl (c_Sw_write (hx _) hI.1 (by rw [hI.2.2.2.2.1]; exact hI.2.2.2.2.2.1.1)) rfl (fun v I1 L1 hP => ?_)
  obtain ⟨z, rfl, hz⟩ := hP
  have hk : ∀ c, 148 ≤ c → I1 c = I c := fun c hc => by
    rcases hz with ⟨-, -, e⟩ | ⟨-, -, -, e⟩ | ⟨-, -, -, e⟩
    · rw [e]
    · rw [e]
    · rw [e, iup_other (by omega), iup_other (by omega), iup_other (by omega)]
  refine Wk.aload_n (k := 2) (q := 736) (by decide +kernel) rfl rfl rfl ?_
  refine Wk.aload_n (k := 0) (q := 737) (by decide +kernel) rfl rfl rfl ?_
  refine Wk.iload_n (k := 3) (q := 738) (by decide +kernel) rfl rfl rfl ?_
  refine Wk.iconst (n := 1) (q := 739) (by decide +kernel) rfl ?_
  refine Wk.iadd (q := 740) (by decide +kernel) rfl ?_
  refine Wk.ialS (q := 741) (by decide +kernel) (by first | omega | exact bi_rng _) (by first | omega | exact bi_rng _) rfl ?_
  refine Wk.aload_n (k := 0) (q := 742) (by decide +kernel) rfl rfl rfl ?_
  refine Wk.iload_n (k := 3) (q := 743) (by decide +kernel) rfl rfl rfl ?_
  refine Wk.iconst (n := 2) (q := 744) (by decide +kernel) rfl ?_
  refine Wk.iadd (q := 745) (by decide +kernel) rfl ?_
  refine Wk.ialS (q := 746) (by decide +kernel) (by first | omega | exact bi_rng _) (by first | omega | exact bi_rng _) rfl ?_
  refine Wk.cV (q := 749) l_Law_97 m_Mod_write (by decide +kernel) (fun _ h => h) O_148 rfl (Nat.le_of_ble_eq_true rfl) (Nat.le_of_ble_eq_true rfl) rfl (c_Mod_write (hx _) ((MW_eq (hk 149 (by omega))).mpr hI.1.mw) (by rw [hk 148 (by omega)]; exact hI.2.2.2.2.2.1.1)) rfl (fun v2 I2 L2 hP2 => ?_)
  obtain ⟨⟨z2, rfl, hz2⟩, hL⟩ := hP2
  obtain ⟨rfl, hI2⟩ := J_write hI (hx _) hz hz2
  exact Wk.icmp_same (off := 87) (t := 836) (by decide +kernel) (by decide) (ih _ _ hI2)
theorem law_tear (hx : ∀ z, -2147483648 ≤ xs.2 z ∧ xs.2 z ≤ 2147483647) (hI : Inv I) (k0 : 0 ≤ k) (k1 : k + 5 ≤ xs.1) (ih : ∀ I' L', Inv I' → Wk xs x_Law_law (d + 13) 0 0 836 [some (vr 1000000), some (vr 0), some (vr 148), some (vi k)] [] X2 I' L' post) : Wk xs x_Law_law (d + 13) 0 0 754 [some (vr 1000000), some (vr 0), some (vr 148), some (vi k)] [] X2 I L post := by
  refine Wk.aload_n (k := 1) (q := 755) (by decide +kernel) rfl rfl rfl ?_
  refine Wk.cV (q := 758) l_Law_98 m_Sw_tear (by decide +kernel) (fun _ h => h) O_0 rfl (Nat.le_of_ble_eq_true rfl) (Nat.le_of_ble_eq_true rfl) rfl (c_Sw_tear) rfl (fun v I1 L1 hP => ?_)
  obtain ⟨z, rfl, hz⟩ := hP
  have hk : ∀ c, 148 ≤ c → I1 c = I c := fun c hc => by
    rw [hz.2, iup_other (by omega)]
  refine Wk.aload_n (k := 2) (q := 759) (by decide +kernel) rfl rfl rfl ?_
  refine Wk.cV (q := 762) l_Law_101 m_Mod_tear (by decide +kernel) (fun _ h => h) O_148 rfl (Nat.le_of_ble_eq_true rfl) (Nat.le_of_ble_eq_true rfl) rfl (c_Mod_tear) rfl (fun v2 I2 L2 hP2 => ?_)
  obtain ⟨⟨z2, rfl, hz2⟩, hL⟩ := hP2
  obtain ⟨rfl, hI2⟩ := J_tear hI hz hz2
  exact Wk.icmp_same (off := 74) (t := 836) (by decide +kernel) (by decide) (ih _ _ hI2)
theorem law_seed (hx : ∀ z, -2147483648 ≤ xs.2 z ∧ xs.2 z ≤ 2147483647) (hI : Inv I) (k0 : 0 ≤ k) (k1 : k + 5 ≤ xs.1) (ih : ∀ I' L', Inv I' → Wk xs x_Law_law (d + 13) 0 0 836 [some (vr 1000000), some (vr 0), some (vr 148), some (vi k)] [] X2 I' L' post) : Wk xs x_Law_law (d + 13) 0 0 767 [some (vr 1000000), some (vr 0), some (vr 148), some (vi k)] [] X2 I L post := by
  refine Wk.aload_n (k := 1) (q := 768) (by decide +kernel) rfl rfl rfl ?_
  refine Wk.aload_n (k := 0) (q := 769) (by decide +kernel) rfl rfl rfl ?_
  refine Wk.iload_n (k := 3) (q := 770) (by decide +kernel) rfl rfl rfl ?_
  refine Wk.iconst (n := 1) (q := 771) (by decide +kernel) rfl ?_
  refine Wk.iadd (q := 772) (by decide +kernel) rfl ?_
  refine Wk.ialS (q := 773) (by decide +kernel) (by first | omega | exact bi_rng _) (by first | omega | exact bi_rng _) rfl ?_
  refine Wk.cV (q := 776) l_Law_102 m_Sw_seed (by decide +kernel) (fun _ h => h) O_0 rfl (Nat.le_of_ble_eq_true rfl) (Nat.le_of_ble_eq_true rfl) rfl (c_Sw_seed (hx _)) rfl (fun v I1 L1 hP => ?_)
  obtain ⟨z, rfl, hz⟩ := hP
  have hk : ∀ c, 148 ≤ c → I1 c = I c := fun c hc => by
    rcases hz with ⟨-, -, e⟩ | ⟨-, -, e⟩
    · rw [e]
    · rw [e, iup_other (by omega)]
  refine Wk.aload_n (k := 2) (q := 777) (by decide +kernel) rfl rfl rfl ?_
  refine Wk.aload_n (k := 0) (q := 778) (by decide +kernel) rfl rfl rfl ?_
  refine Wk.iload_n (k := 3) (q := 779) (by decide +kernel) rfl rfl rfl ?_
  refine Wk.iconst (n := 1) (q := 780) (by decide +kernel) rfl ?_
  refine Wk.iadd (q := 781) (by decide +kernel) rfl ?_
  refine Wk.ialS (q := 782) (by decide +kernel) (by first | omega | exact bi_rng _) (by first | omega | exact bi_rng _) rfl ?_
  refine Wk.cV (q := 785) l_Law_105 m_Mod_seed (by decide +kernel) (fun _ h => h) O_148 rfl (Nat.le_of_ble_eq_true rfl) (Nat.le_of_ble_eq_true rfl) rfl (c_Mod_seed (hx _)) rfl (fun v2 I2 L2 hP2 => ?_)
  obtain ⟨⟨z2, rfl, hz2⟩, hL⟩ := hP2
  obtain ⟨rfl, hI2⟩ := J_seed hI (hx _).2 hz hz2
  exact Wk.icmp_same (off := 51) (t := 836) (by decide +kernel) (by decide) (ih _ _ hI2)
theorem law_keep (hx : ∀ z, -2147483648 ≤ xs.2 z ∧ xs.2 z ≤ 2147483647) (hI : Inv I) (k0 : 0 ≤ k) (k1 : k + 5 ≤ xs.1) (ih : ∀ I' L', Inv I' → Wk xs x_Law_law (d + 13) 0 0 836 [some (vr 1000000), some (vr 0), some (vr 148), some (vi k)] [] X2 I' L' post) : Wk xs x_Law_law (d + 13) 0 0 790 [some (vr 1000000), some (vr 0), some (vr 148), some (vi k)] [] X2 I L post := by
  refine Wk.aload_n (k := 1) (q := 791) (by decide +kernel) rfl rfl rfl ?_
  refine Wk.aload_n (k := 0) (q := 792) (by decide +kernel) rfl rfl rfl ?_
  refine Wk.iload_n (k := 3) (q := 793) (by decide +kernel) rfl rfl rfl ?_
  refine Wk.iconst (n := 1) (q := 794) (by decide +kernel) rfl ?_
  refine Wk.iadd (q := 795) (by decide +kernel) rfl ?_
  refine Wk.ialS (q := 796) (by decide +kernel) (by first | omega | exact bi_rng _) (by first | omega | exact bi_rng _) rfl ?_
  refine Wk.cV (q := 799) l_Law_106 m_Sw_keep (by decide +kernel) (fun _ h => h) O_0 rfl (Nat.le_of_ble_eq_true rfl) (Nat.le_of_ble_eq_true rfl) rfl (c_Sw_keep (hx _)) rfl (fun v I1 L1 hP => ?_)
  obtain ⟨z, rfl, hz⟩ := hP
  have hk : ∀ c, 148 ≤ c → I1 c = I c := fun c hc => by
    rcases hz with ⟨-, -, e⟩ | ⟨hi, -, J, hJ, e⟩
    · rw [e]
    · rw [e, iup_other (by omega), iup_other (by omega), iup_other (by omega), hJ.2.2 c (Or.inr (by omega))]
  refine Wk.aload_n (k := 2) (q := 800) (by decide +kernel) rfl rfl rfl ?_
  refine Wk.aload_n (k := 0) (q := 801) (by decide +kernel) rfl rfl rfl ?_
  refine Wk.iload_n (k := 3) (q := 802) (by decide +kernel) rfl rfl rfl ?_
  refine Wk.iconst (n := 1) (q := 803) (by decide +kernel) rfl ?_
  refine Wk.iadd (q := 804) (by decide +kernel) rfl ?_
  refine Wk.ialS (q := 805) (by decide +kernel) (by first | omega | exact bi_rng _) (by first | omega | exact bi_rng _) rfl ?_
  refine Wk.cV (q := 808) l_Law_109 m_Mod_keep (by decide +kernel) (fun _ h => h) O_148 rfl (Nat.le_of_ble_eq_true rfl) (Nat.le_of_ble_eq_true rfl) rfl (c_Mod_keep (hx _)) rfl (fun v2 I2 L2 hP2 => ?_)
  obtain ⟨⟨z2, rfl, hz2⟩, hL⟩ := hP2
  obtain ⟨rfl, hI2⟩ := J_keep hI hz hz2
  exact Wk.icmp_same (off := 28) (t := 836) (by decide +kernel) (by decide) (ih _ _ hI2)
theorem law_goBack (hx : ∀ z, -2147483648 ≤ xs.2 z ∧ xs.2 z ≤ 2147483647) (hI : Inv I) (k0 : 0 ≤ k) (k1 : k + 5 ≤ xs.1) (ih : ∀ I' L', Inv I' → Wk xs x_Law_law (d + 13) 0 0 836 [some (vr 1000000), some (vr 0), some (vr 148), some (vi k)] [] X2 I' L' post) : Wk xs x_Law_law (d + 13) 0 0 813 [some (vr 1000000), some (vr 0), some (vr 148), some (vi k)] [] X2 I L post := by
  refine Wk.aload_n (k := 1) (q := 814) (by decide +kernel) rfl rfl rfl ?_
  refine Wk.aload_n (k := 0) (q := 815) (by decide +kernel) rfl rfl rfl ?_
  refine Wk.iload_n (k := 3) (q := 816) (by decide +kernel) rfl rfl rfl ?_
  refine Wk.iconst (n := 1) (q := 817) (by decide +kernel) rfl ?_
  refine Wk.iadd (q := 818) (by decide +kernel) rfl ?_
  refine Wk.ialS (q := 819) (by decide +kernel) (by first | omega | exact bi_rng _) (by first | omega | exact bi_rng _) rfl ?_
  refine Wk.cV (q := 822) l_Law_110 m_Sw_goBack (by decide +kernel) (fun _ h => h) O_0 rfl (Nat.le_of_ble_eq_true rfl) (Nat.le_of_ble_eq_true rfl) rfl (c_Sw_goBack (hx _) (fun i hi => by rw [(hI.2.2.1.2 i hi).1]; exact bi_range _)) rfl (fun v I1 L1 hP => ?_)
  obtain ⟨z, rfl, hz⟩ := hP
  have hk : ∀ c, 148 ≤ c → I1 c = I c := fun c hc => by
    rcases hz with ⟨-, -, e⟩ | ⟨-, -, -, e⟩ | ⟨-, -, -, J, hJ, e⟩
    · rw [e]
    · rw [e]
    · rw [e, iup_other (by omega), iup_other (by omega), hJ.2.2 c (Or.inr (by omega))]
  refine Wk.aload_n (k := 2) (q := 823) (by decide +kernel) rfl rfl rfl ?_
  refine Wk.aload_n (k := 0) (q := 824) (by decide +kernel) rfl rfl rfl ?_
  refine Wk.iload_n (k := 3) (q := 825) (by decide +kernel) rfl rfl rfl ?_
  refine Wk.iconst (n := 1) (q := 826) (by decide +kernel) rfl ?_
  refine Wk.iadd (q := 827) (by decide +kernel) rfl ?_
  refine Wk.ialS (q := 828) (by decide +kernel) (by first | omega | exact bi_rng _) (by first | omega | exact bi_rng _) rfl ?_
  refine Wk.cV (q := 831) l_Law_113 m_Mod_goBack (by decide +kernel) (fun _ h => h) O_148 rfl (Nat.le_of_ble_eq_true rfl) (Nat.le_of_ble_eq_true rfl) rfl (c_Mod_goBack (hx _) (by rw [hk 148 (by omega)]; exact hI.2.2.1.1)) rfl (fun v2 I2 L2 hP2 => ?_)
  obtain ⟨⟨z2, rfl, hz2⟩, hL⟩ := hP2
  obtain ⟨rfl, hI2⟩ := J_goBack hI hz hz2
  exact Wk.icmp_same (off := 5) (t := 836) (by decide +kernel) (by decide) (ih _ _ hI2)
end LAW
