/-! Wk's rows for new cells, the library, switches, comparisons of longs -/
def iz (I : IM) (id : Nat) : IM := fun a b => if a = id then 0 else I a b
def lz (L : LM) (id : Nat) : LM := fun a b => if a = id then 0 else L a b
def spush (X : LY) (S : SH) : LY := (X.1 + 1, fun k => if k = X.1 then S else X.2 k)
theorem new_at {g : GB} {X : LY} {I : IM} {L : LM} {H1 : Heap} {a : Nat} {e : va_E} (hP : va_P g.2.2.1 cls0 (wsOf g X I L ++ [(a, e)]) H1) (hD : va_D (fun q => g.1 ≤ q) (wsOf g X I L ++ [(a, e)])) (hlt : X.1 < 1000000) (hz : H1.size ≤ g.1 + X.1 + 1) : a = ad g X.1 := by
  have hlen : (wsOf g X I L).length = X.1 := by simp [wsOf]
  have hl : (wsOf g X I L ++ [(a, e)])[X.1]? = some (a, e) := by
    rw [List.getElem?_append_right (by omega), hlen, Nat.sub_self]
    rfl
  have h1 := (hP X.1 _ hl).lt
  have h2 : g.1 ≤ a := hD.2 X.1 _ hl
  have h3 : ad g X.1 = g.1 + X.1 := by simp [ad, hlt]
  rw [h3]
  by_cases h : a = g.1 + X.1
  · exact h
  · exfalso
    have hk : a - g.1 < X.1 := by simp only at h1; omega
    have hl2 : (wsOf g X I L ++ [(a, e)])[a - g.1]? = some (ad g (a - g.1), ent g (X.2 (a - g.1)) I L (a - g.1)) := by
      rw [List.getElem?_append_left (by omega), wsOf_at hk]
    have := hD.1 X.1 (a - g.1) _ _ hl hl2 (by simp only [ad]; rw [if_pos (by omega)]; omega)
    omega
section WKN
variable {xs : RO} {cx : CX} {d bc bs pc q : Nat} {lv lv' : List (Option AV)} {st st' : List AV} {X : LY} {I : IM} {L : LM} {post : Option AV → LY → IM → LM → Prop}
theorem Wk.newO {idx ci n : Nat} {C : String} {T : u_T} {ty0 : Nat → FieldType} (hcl : Cond.classLink (cxO cx) idx C ∈ gtbl) (hin : Cond.instantiable C n ∈ gtbl ∧ Cond.initialized C ∈ gtbl) (hC : CK ci C T n ty0) (hdf : ∀ k, k < n → defaultValue (ty0 k) = if rk ci k = true then .null else .int 0) (hd : decode (cxC cx) pc = .ok (.new idx, 3)) (hX : X.1 + 1 < 1000000) (hq : pc + 3 = q)
    (kk : Wk xs cx d bc bs q lv (vr X.1 :: st) (spush X (ci, n, fun _ => none)) (iz I X.1) L post) : Wk xs cx d (bc + 1) (bs + n) pc lv st X I L post := by
  subst hq
  intro l g p e R s m args below meth c Q H locs cells slots ls hF hc hs hR hE hl hex
  refine va_new (D := g.2.2.1) (cl := cls0) (ci := ci) (fs := entO g (iz I X.1) X.1 ci n (fun _ => none)) hF.1 hF.2.1 hF.2.2.2.2.1 hC.2.1 ty0 hC.2.2.1 hF.2.2.2.1 (hF.2.2.2.2.1 _ hcl) (hF.2.2.2.2.1 _ hin.1) (hF.2.2.2.2.1 _ hin.2) hF.2.2.2.2.2.2.2.2.2.1 hR.1 (wsOf_D hR.2.1) hR.2.2 (fun q h => Nat.le_trans hF.2.2.2.2.2.2.2.2.1 h) hC.1 (fun j hj => ?_) (by omega) (by omega) hd (fun a H1 hP hD hS => ?_)
  · rw [hdf j hj]
    have : (entO g (iz I X.1) X.1 ci n (fun _ => none))[j]? = _ := entO_at hj
    simp only [vp_V, List.getD, this, Option.getD_some]
    split
    · rfl
    · simp [iz, nZ_0]
  · refine Wsize (fun hz => ?_)
    have ha := new_at hP hD hR.2.1 (by omega)
    subst ha
    rw [wsOf_push (X' := spush X (ci, n, fun _ => none)) (I' := iz I X.1) (L' := L) rfl (fun k hk => ⟨by simp only [spush]; rw [if_neg (by omega)], by funext b; simp only [iz]; rw [if_neg (by omega)], rfl⟩) (by simp only [spush, if_true]; rw [ent_obj hC.2.2.2.2])] at hP
    exact kk l g p e R s m args below meth c Q H1 locs (cells + 1) (slots + n) ls hF (by omega) (by omega) ⟨hP, hX, hS⟩ (by show s.heap.size + (cells + 1) = g.1 + (X.1 + 1); omega) hl (fun v X1 I1 L1 H1 locs1 cells1 slots1 ls1 pc1 hp1 hc1 hs1 => hex v X1 I1 L1 H1 locs1 cells1 slots1 ls1 pc1 hp1 (by omega) (by omega))
theorem tys_eq {g : GB} {s : State} {tg : Nat} {ty : FieldType} {cA : ClassId} (hK : va_K g.2.2.1 cls0 (tysOf g) s) (hK1 : va_K g.2.2.1 cls0 (tysOf g ++ [(cA, ty)]) s) (ht : (tysOf g)[tg - 10]? = some (g.2.2.2 tg, ty)) (hty : ty = .int ∨ ty = .long ∨ ty = .boolean ∨ ∃ C, ty = .object C) : cA = g.2.2.2 tg := by
  have h1 := (hK.2 (tg - 10) _ ht).2
  have h2 := (hK1.2 5 (cA, ty) rfl).2
  rcases hty with rfl | rfl | rfl | ⟨C, rfl⟩
  · exact Option.some.inj (h2.symm.trans h1)
  · exact Option.some.inj (h2.symm.trans h1)
  · exact Option.some.inj (h2.symm.trans h1)
  · obtain ⟨-, -, -, -, -, e1⟩ := h1
    obtain ⟨-, -, -, -, -, e2⟩ := h2
    exact Option.some.inj (e2.symm.trans e1)
theorem Wk.newI {N : Nat} {z : Int} (hz : (N : Int) = z) (hN : N ≤ 100000) (hd : decode (cxC cx) pc = .ok (.newarray .int, 2)) (hX : X.1 + 1 < 1000000) (hq : pc + 2 = q)
    (kk : Wk xs cx d bc bs q lv (vr X.1 :: st) (spush X (10, N, fun _ => none)) (iz I X.1) L post) : Wk xs cx d (bc + 1) (bs + N) pc lv (vi z :: st) X I L post := by
  subst hq; subst hz
  intro l g p e R s m args below meth c Q H locs cells slots ls hF hc hs hR hE hl hex
  refine va_newa (D := g.2.2.1) (cl := cls0) (atype := .int) (ty := .int) (N' := N) (a0 := (N, .inl fun _ => 0)) hF.1 hF.2.1 (hF.2.2.2.2.1 _ a_int) rfl hF.2.2.2.2.2.2.2.2.2.1 hR.1 (wsOf_D hR.2.1) hR.2.2 (fun q h => Nat.le_trans hF.2.2.2.2.2.2.2.2.1 h) (fun _ => rfl) (by rw [← nZ_0, nZ_lt (by omega) (by omega)]; omega) (by rw [nZ_cl (by omega) (by omega)]; omega) (by show N * 4 ≤ _; omega) (by omega) (by omega) hd (fun a cA H1 hK hP hD hS => ?_)
  have hcA := tys_eq (tg := 10) hF.2.2.2.2.2.2.2.2.2.1 hK rfl (Or.inl rfl)
  subst hcA
  refine Wsize (fun hz => ?_)
  have ha := new_at hP hD hR.2.1 (by omega)
  subst ha
  rw [wsOf_push (X' := spush X (10, N, fun _ => none)) (I' := iz I X.1) (L' := L) rfl (fun k hk => ⟨by simp only [spush]; rw [if_neg (by omega)], by funext b; simp only [iz]; rw [if_neg (by omega)], rfl⟩) (by simp only [spush, if_true]; rw [ent_arr rfl (Or.inl rfl)]; simp only [iz, if_true, nZ_0])] at hP
  exact kk l g p e R s m args below meth c Q H1 locs (cells + 1) (slots + N) ls hF (by omega) (by omega) ⟨hP, hX, hS⟩ (by show s.heap.size + (cells + 1) = g.1 + (X.1 + 1); omega) hl (fun v X1 I1 L1 H1 locs1 cells1 slots1 ls1 pc1 hp1 hc1 hs1 => hex v X1 I1 L1 H1 locs1 cells1 slots1 ls1 pc1 hp1 (by omega) (by omega))
theorem Wk.newZ {N : Nat} {z : Int} (hz : (N : Int) = z) (hN : N ≤ 100000) (hd : decode (cxC cx) pc = .ok (.newarray .boolean, 2)) (hX : X.1 + 1 < 1000000) (hq : pc + 2 = q)
    (kk : Wk xs cx d bc bs q lv (vr X.1 :: st) (spush X (12, N, fun _ => none)) (iz I X.1) L post) : Wk xs cx d (bc + 1) (bs + N) pc lv (vi z :: st) X I L post := by
  subst hq; subst hz
  intro l g p e R s m args below meth c Q H locs cells slots ls hF hc hs hR hE hl hex
  refine va_newa (D := g.2.2.1) (cl := cls0) (atype := .boolean) (ty := .boolean) (N' := N) (a0 := (N, .inl fun _ => 0)) hF.1 hF.2.1 (hF.2.2.2.2.1 _ a_boolean) rfl hF.2.2.2.2.2.2.2.2.2.1 hR.1 (wsOf_D hR.2.1) hR.2.2 (fun q h => Nat.le_trans hF.2.2.2.2.2.2.2.2.1 h) (fun _ => rfl) (by rw [← nZ_0, nZ_lt (by omega) (by omega)]; omega) (by rw [nZ_cl (by omega) (by omega)]; omega) (by show N * 1 ≤ _; omega) (by omega) (by omega) hd (fun a cA H1 hK hP hD hS => ?_)
  have hcA := tys_eq (tg := 12) hF.2.2.2.2.2.2.2.2.2.1 hK rfl (Or.inr (Or.inr (Or.inl rfl)))
  subst hcA
  refine Wsize (fun hz => ?_)
  have ha := new_at hP hD hR.2.1 (by omega)
  subst ha
  rw [wsOf_push (X' := spush X (12, N, fun _ => none)) (I' := iz I X.1) (L' := L) rfl (fun k hk => ⟨by simp only [spush]; rw [if_neg (by omega)], by funext b; simp only [iz]; rw [if_neg (by omega)], rfl⟩) (by simp only [spush, if_true]; rw [ent_arr rfl (Or.inr rfl)]; simp only [iz, if_true, nZ_0])] at hP
  exact kk l g p e R s m args below meth c Q H1 locs (cells + 1) (slots + N) ls hF (by omega) (by omega) ⟨hP, hX, hS⟩ (by show s.heap.size + (cells + 1) = g.1 + (X.1 + 1); omega) hl (fun v X1 I1 L1 H1 locs1 cells1 slots1 ls1 pc1 hp1 hc1 hs1 => hex v X1 I1 L1 H1 locs1 cells1 slots1 ls1 pc1 hp1 (by omega) (by omega))
theorem Wk.newL {N : Nat} {z : Int} (hz : (N : Int) = z) (hN : N ≤ 100000) (hd : decode (cxC cx) pc = .ok (.newarray .long, 2)) (hX : X.1 + 1 < 1000000) (hq : pc + 2 = q)
    (kk : Wk xs cx d bc bs q lv (vr X.1 :: st) (spush X (11, N, fun _ => none)) I (lz L X.1) post) : Wk xs cx d (bc + 1) (bs + N) pc lv (vi z :: st) X I L post := by
  subst hq; subst hz
  intro l g p e R s m args below meth c Q H locs cells slots ls hF hc hs hR hE hl hex
  refine va_newa (D := g.2.2.1) (cl := cls0) (atype := .long) (ty := .long) (N' := N) (a0 := (N, .inr (.inl fun _ => 0))) hF.1 hF.2.1 (hF.2.2.2.2.1 _ a_long) rfl hF.2.2.2.2.2.2.2.2.2.1 hR.1 (wsOf_D hR.2.1) hR.2.2 (fun q h => Nat.le_trans hF.2.2.2.2.2.2.2.2.1 h) (fun _ => rfl) (by rw [← nZ_0, nZ_lt (by omega) (by omega)]; omega) (by rw [nZ_cl (by omega) (by omega)]; omega) (by show N * 8 ≤ _; omega) (by omega) (by omega) hd (fun a cA H1 hK hP hD hS => ?_)
  have hcA := tys_eq (tg := 11) hF.2.2.2.2.2.2.2.2.2.1 hK rfl (Or.inr (Or.inl rfl))
  subst hcA
  refine Wsize (fun hz => ?_)
  have ha := new_at hP hD hR.2.1 (by omega)
  subst ha
  rw [wsOf_push (X' := spush X (11, N, fun _ => none)) (I' := I) (L' := lz L X.1) rfl (fun k hk => ⟨by simp only [spush]; rw [if_neg (by omega)], rfl, by funext b; simp only [lz]; rw [if_neg (by omega)]⟩) (by simp only [spush, if_true]; rw [ent, if_neg (by show ¬ (11 : Nat) < 10; omega), if_pos rfl]; simp only [lz, if_true])] at hP
  exact kk l g p e R s m args below meth c Q H1 locs (cells + 1) (slots + N) ls hF (by omega) (by omega) ⟨hP, hX, hS⟩ (by show s.heap.size + (cells + 1) = g.1 + (X.1 + 1); omega) hl (fun v X1 I1 L1 H1 locs1 cells1 slots1 ls1 pc1 hp1 hc1 hs1 => hex v X1 I1 L1 H1 locs1 cells1 slots1 ls1 pc1 hp1 (by omega) (by omega))
theorem Wk.newQ {N tg idx : Nat} {z : Int} {C : String} (hcl : Cond.classLink (cxO cx) idx C ∈ gtbl) (htg : tg = 13 ∧ C = "SwungShips$Harbour" ∨ tg = 14 ∧ C = "SwungShips$Image") (hz : (N : Int) = z) (hN : N ≤ 100000) (hd : decode (cxC cx) pc = .ok (.anewarray idx, 3)) (hX : X.1 + 1 < 1000000) (hq : pc + 3 = q)
    (kk : Wk xs cx d bc bs q lv (vr X.1 :: st) (spush X (tg, N, fun _ => none)) I L post) : Wk xs cx d (bc + 1) (bs + N) pc lv (vi z :: st) X I L post := by
  subst hq; subst hz
  intro l g p e R s m args below meth c Q H locs cells slots ls hF hc hs hR hE hl hex
  have hover : va_AO C s := by
    rcases htg with ⟨-, rfl⟩ | ⟨-, rfl⟩
    · exact hF.2.2.2.2.2.2.2.2.2.2.2.2.2.2.2.2.1
    · exact hF.2.2.2.2.2.2.2.2.2.2.2.2.2.2.2.2.2.1
  refine va_newq (D := g.2.2.1) (cl := cls0) (N' := N) hF.1 hF.2.1 hF.2.2.2.1 (hF.2.2.2.2.1 _ hcl) hover hF.2.2.2.2.2.2.2.2.2.1 hR.1 (wsOf_D hR.2.1) hR.2.2 (fun q h => Nat.le_trans hF.2.2.2.2.2.2.2.2.1 h) (by rw [← nZ_0, nZ_lt (by omega) (by omega)]; omega) (by rw [nZ_cl (by omega) (by omega)]; omega) (by omega) (by omega) (by omega) hd (fun a cA H1 hK hP hD hS => ?_)
  have hcA : cA = g.2.2.2 tg := by
    rcases htg with ⟨rfl, rfl⟩ | ⟨rfl, rfl⟩
    · exact tys_eq (tg := 13) hF.2.2.2.2.2.2.2.2.2.1 hK rfl (Or.inr (Or.inr (Or.inr ⟨_, rfl⟩)))
    · exact tys_eq (tg := 14) hF.2.2.2.2.2.2.2.2.2.1 hK rfl (Or.inr (Or.inr (Or.inr ⟨_, rfl⟩)))
  subst hcA
  refine Wsize (fun hz => ?_)
  have ha := new_at hP hD hR.2.1 (by omega)
  subst ha
  rw [wsOf_push (X' := spush X (tg, N, fun _ => none)) (I' := I) (L' := L) rfl (fun k hk => ⟨by simp only [spush]; rw [if_neg (by omega)], rfl, rfl⟩) (by simp only [spush, if_true]; rw [ent, if_neg (by omega), if_neg (by omega), if_neg (by omega)]; rfl)] at hP
  exact kk l g p e R s m args below meth c Q H1 locs (cells + 1) (slots + N) ls hF (by omega) (by omega) ⟨hP, hX, hS⟩ (by show s.heap.size + (cells + 1) = g.1 + (X.1 + 1); omega) hl (fun v X1 I1 L1 H1 locs1 cells1 slots1 ls1 pc1 hp1 hc1 hs1 => hex v X1 I1 L1 H1 locs1 cells1 slots1 ls1 pc1 hp1 (by omega) (by omega))
theorem up_refs {g : GB} {rf : Nat → Option Nat} {z : Int} {r : Nat} : va_up (fun j : Nat => (rf j).map (ad g)) z.toNat (some (ad g r)) = fun j : Nat => (if j = z.toNat then some r else rf j).map (ad g) := by
  funext j
  simp only [va_up]
  split <;> rfl
theorem Wk.aastore {id r tg ci n N : Nat} {z : Int} (hd : decode (cxC cx) pc = .ok (.aastore, 1)) (hA : id < X.1 ∧ X.2 id = (tg, N, (X.2 id).2.2)) (hN : N ≤ 100000) (htg : tg = 13 ∧ ci = 1 ∨ tg = 14 ∧ ci = 3) (hO : isO X r ci n) (h0 : 0 ≤ z) (h1 : z < N) (hq : pc + 1 = q) (kk : Wk xs cx d bc bs q lv st (sup X id (tg, N, fun j => if j = z.toNat then some r else (X.2 id).2.2 j)) I L post) : Wk xs cx d bc bs pc lv (vr r :: vi z :: vr id :: st) X I L post := by
  subst hq
  obtain ⟨hA1, hA2⟩ := hA
  have hA3 : isA X id tg N := ⟨hA1, by rw [hA2], by rw [hA2], by omega⟩
  have hsz : (X.2 id).2.1 = N := by rw [hA2]
  refine Wk.goM (fun _ g _ _ _ _ _ _ _ _ _ _ _ _ _ _ ls hF hR hD _ k2 => ?_) (by rfl) kk
  have hent := ent_q (g := g) (I := I) (L := L) hA3 (by omega)
  rw [hsz] at hent
  have hfin : ∀ {H1 : Heap}, va_P g.2.2.1 cls0 ((wsOf g X I L).set id (ad g id, .inl (g.2.2.2 tg, N, .inr (.inr (.inr (.inr (va_up (fun j : Nat => ((X.2 id).2.2 j).map (ad g)) (nZ z).toNatClampNeg (some (ad g r))))))))) H1 → va_P g.2.2.1 cls0 (wsOf g (sup X id (tg, N, fun j => if j = z.toNat then some r else (X.2 id).2.2 j)) I L) H1 := by
    intro H1 hP
    rw [nZ_cl h0 (by omega), up_refs, wsOf_set (X := X) (X' := sup X id (tg, N, fun j => if j = z.toNat then some r else (X.2 id).2.2 j)) (I' := I) (L' := L) rfl (fun j hj => ⟨by simp [sup, hj], rfl, rfl⟩) (by simp only [sup, if_true]; rw [ent, if_neg (by omega), if_neg (by omega), if_neg (by omega)])] at hP
    exact hP
  rcases htg with ⟨rfl, rfl⟩ | ⟨rfl, rfl⟩
  · exact va_astq (D := g.2.2.1) (cl := cls0) hF.1 hF.2.1 hF.2.2.2.2.2.2.2.2.2.1 hR.1 hD hR.2.2 id 3 r 1 (r := ("SwungShips$Harbour", T_Harb, 12)) hent rfl (ent_o hO) rfl (nZ_in h0 h1 (by omega)) hd (fun H1 locs1 hP _ hS => k2 H1 locs1 (hfin hP) hS)
  · exact va_astq (D := g.2.2.1) (cl := cls0) hF.1 hF.2.1 hF.2.2.2.2.2.2.2.2.2.1 hR.1 hD hR.2.2 id 4 r 3 (r := ("SwungShips$Image", T_Imag, 3)) hent rfl (ent_o hO) rfl (nZ_in h0 h1 (by omega)) hd (fun H1 locs1 hP _ hS => k2 H1 locs1 (hfin hP) hS)
theorem Wk.objInit {idx id : Nat} (hL : Cond.methodLink (cxO cx) idx objectInit ∈ gtbl) (hd : decode (cxC cx) pc = .ok (.invokespecial idx, 3)) (hw : wcat st ≤ 8) (hq : pc + 3 = q) (kk : Wk xs cx (d + 1) bc bs q lv st X I L post) : Wk xs cx (d + 1) bc bs pc lv (vr id :: st) X I L post := by
  subst hq
  refine Wk.go1 (fun _ g _ _ R _ m _ _ _ c _ _ _ _ _ ls hF _ _ hR hl k2 => ?_) kk
  have h1 := hF.2.2.2.2.2.2.1
  have h2 := hF.2.2.2.2.2.2.2.1
  have h3 := wcat_eq (g := g) st
  exact W.objInit hF.1 hF.2.1 hF.2.2.2.1 (hF.2.2.2.2.1 _ hL) (hF.2.2.2.2.1 _ oi_inst) (hF.2.2.2.2.1 _ oi_code) rfl (by rw [hF.2.2.1]; exact hl.1) (a := ad g id) rfl hd (by omega) (by show 2 * 0 + _ + 12 ≤ _; omega) k2
def icpy (I : IM) (s : Nat) (sp : Int) (t : Nat) (dp n : Int) : IM := fun a b => if a = t ∧ dp ≤ b ∧ b < dp + n then I s (sp + (b - dp)) else I a b
theorem cpy_of {I : IM} {s t : Nat} {sp dp n : Int} (h1 : 0 ≤ sp) (h2 : 0 ≤ dp) (h3 : 0 ≤ n) : va_cpy (fun j : Nat => nZ (I s (j : Int))) (fun j : Nat => nZ (I t (j : Int))) sp.toNat dp.toNat n.toNat = fun j : Nat => nZ (icpy I s sp t dp n t (j : Int)) := by
  funext j
  by_cases h : dp ≤ (j : Int) ∧ (j : Int) < dp + n
  · simp only [va_cpy, icpy]
    rw [if_pos (by omega), if_pos ⟨trivial, h.1, h.2⟩]
    congr 2
    omega
  · simp only [va_cpy, icpy]
    rw [if_neg (by omega), if_neg (fun z => h z.2)]
theorem Wk.arraycopy {idx s t : Nat} {sp dp n N M : Int} (hL : Cond.methodLink (cxO cx) idx arraycopyName ∈ gtbl) (hd : decode (cxC cx) pc = .ok (.invokestatic idx, 3)) (hs : isA X s 10 N) (ht : isA X t 10 M) (h1 : 0 ≤ sp) (h2 : 0 ≤ dp) (h3 : 0 ≤ n) (h4 : sp + n ≤ N) (h5 : dp + n ≤ M) (hw : wcat st ≤ 8) (hq : pc + 3 = q) (kk : Wk xs cx (d + 1) bc bs q lv st X (icpy I s sp t dp n) L post) : Wk xs cx (d + 1) bc bs pc lv (vi n :: vi dp :: vr t :: vi sp :: vr s :: st) X I L post := by
  subst hq
  have e1 := hs.2.2.1
  have e2 := hs.2.2.2
  have e3 := ht.2.2.1
  have e4 := ht.2.2.2
  refine Wk.goM (fun _ g _ _ R _ _ _ _ _ _ _ _ _ _ _ ls hF hR hD hls k2 => ?_) rfl kk
  have h7 := hF.2.2.2.2.2.2.1
  have h8 := hF.2.2.2.2.2.2.2.1
  have h9 := wcat_eq (g := g) st
  have hnf : nativeFrameWords "java/lang/System" "arraycopy" 5 + 11 ≤ 40 := by decide +kernel
  refine va_copyi (D := g.2.2.1) (cl := cls0) (ty := .int) hF.1 hF.2.1 (by rw [hF.2.2.1, hls]) hF.2.2.2.1 (hF.2.2.2.2.1 _ hL) (hF.2.2.2.2.1 _ ac_nat) (hF.2.2.2.2.1 _ ac_stat) (hF.2.2.2.2.1 _ ac_ini) hF.2.2.2.2.2.2.2.2.2.1 hR.1 hD hR.2.2 s t 0 0 (ent_i hs) (ent_i ht) rfl rfl rfl (by rw [← nZ_0, nZ_lt (by omega) (by omega)]; omega) (by rw [← nZ_0, nZ_lt (by omega) (by omega)]; omega) (by rw [← nZ_0, nZ_lt (by omega) (by omega)]; omega) (by rw [nZ_cl (by omega) (by omega), nZ_cl (by omega) (by omega)]; omega) (by rw [nZ_cl (by omega) (by omega), nZ_cl (by omega) (by omega)]; omega) (fun _ _ => rfl) (by omega) (by omega) hd (fun H1 locs1 hP _ hS => k2 H1 locs1 ?_ hS)
  rw [nZ_cl h1 (by omega), nZ_cl h2 (by omega), nZ_cl h3 (by omega), cpy_of h1 h2 h3, wsOf_set (X := X) (X' := X) (I' := icpy I s sp t dp n) (L' := L) rfl (fun j hj => ⟨rfl, by funext b; simp only [icpy]; rw [if_neg (fun z => hj z.1)], rfl⟩) (ent_arr ht.2.1 (Or.inl rfl))] at hP
  exact hP
theorem m_max : Cond.static Lib.Math.max.name ∈ gtbl ∧ Cond.initialized "java/lang/Math" ∈ gtbl ∧ Cond.code Lib.Math.max.name Lib.Math.max.code 2 (some .int) ∈ gtbl := ⟨g_mem 304 (by decide +kernel) (by decide +kernel), g_mem 60 (by decide +kernel) (by decide +kernel), g_mem 305 (by decide +kernel) (by decide +kernel)⟩
theorem m_min : Cond.static Lib.Math.min.name ∈ gtbl ∧ Cond.initialized "java/lang/Math" ∈ gtbl ∧ Cond.code Lib.Math.min.name Lib.Math.min.code 2 (some .int) ∈ gtbl := ⟨g_mem 307 (by decide +kernel) (by decide +kernel), g_mem 60 (by decide +kernel) (by decide +kernel), g_mem 308 (by decide +kernel) (by decide +kernel)⟩
theorem Wk.max {idx : Nat} {a b : Int} (hL : LkS (cxO cx) idx Lib.Math.max.name) (hd : decode (cxC cx) pc = .ok (.invokestatic idx, 3)) (ha : -2147483648 ≤ a ∧ a ≤ 2147483647) (hb : -2147483648 ≤ b ∧ b ≤ 2147483647) (hw : wcat st ≤ 8) (hq : pc + 3 = q) (kk : Wk xs cx (d + 1) bc bs q lv (vi (if a < b then b else a) :: st) X I L post) : Wk xs cx (d + 1) bc bs pc lv (vi b :: vi a :: st) X I L post := by
  subst hq
  refine Wk.go1 (fun _ g _ _ R _ _ _ _ _ _ _ _ _ _ _ ls hF hc hs hR hl k2 => ?_) kk
  have h7 := hF.2.2.2.2.2.2.1
  have h8 := hF.2.2.2.2.2.2.2.1
  have h9 := wcat_eq (g := g) st
  refine va_mmax hF.1 hF.2.1 (by rw [hF.2.2.1, hl.1]) hF.2.2.2.1 (hF.2.2.2.2.1 _ hL.1) (hF.2.2.2.2.1 _ m_max.1) (hF.2.2.2.2.1 _ m_max.2.1) (hF.2.2.2.2.1 _ m_max.2.2) (by omega) (by omega) hc hs hd ?_
  have e : (if nZ a < nZ b then nZ b else nZ a) = nZ (if a < b then b else a) := by
    by_cases h : a < b
    · rw [if_pos ((nZ_lt ha hb).mpr h), if_pos h]
    · rw [if_neg (fun z => h ((nZ_lt ha hb).mp z)), if_neg h]
  rw [e]
  exact k2
theorem Wk.min {idx : Nat} {a b : Int} (hL : LkS (cxO cx) idx Lib.Math.min.name) (hd : decode (cxC cx) pc = .ok (.invokestatic idx, 3)) (ha : -2147483648 ≤ a ∧ a ≤ 2147483647) (hb : -2147483648 ≤ b ∧ b ≤ 2147483647) (hw : wcat st ≤ 8) (hq : pc + 3 = q) (kk : Wk xs cx (d + 1) bc bs q lv (vi (if b < a then b else a) :: st) X I L post) : Wk xs cx (d + 1) bc bs pc lv (vi b :: vi a :: st) X I L post := by
  subst hq
  refine Wk.go1 (fun _ g _ _ R _ _ _ _ _ _ _ _ _ _ _ ls hF hc hs hR hl k2 => ?_) kk
  have h7 := hF.2.2.2.2.2.2.1
  have h8 := hF.2.2.2.2.2.2.2.1
  have h9 := wcat_eq (g := g) st
  refine va_mmin hF.1 hF.2.1 (by rw [hF.2.2.1, hl.1]) hF.2.2.2.1 (hF.2.2.2.2.1 _ hL.1) (hF.2.2.2.2.1 _ m_min.1) (hF.2.2.2.2.1 _ m_min.2.1) (hF.2.2.2.2.1 _ m_min.2.2) (by omega) (by omega) hc hs hd ?_
  have e : (if nZ b < nZ a then nZ b else nZ a) = nZ (if b < a then b else a) := by
    by_cases h : b < a
    · rw [if_pos ((nZ_lt hb ha).mpr h), if_pos h]
    · rw [if_neg (fun z => h ((nZ_lt hb ha).mp z)), if_neg h]
  rw [e]
  exact k2
/-- two longs are compared -/
theorem Wk.lcmp {a b : Int64} (hd : decode (cxC cx) pc = .ok (.lcmp, 1)) (hq : pc + 1 = q) (kk : Wk xs cx d bc bs q lv (vi (if a = b then 0 else if b < a then 1 else -1) :: st) X I L post) : Wk xs cx d bc bs pc lv (vl b :: vl a :: st) X I L post := by
  subst hq
  refine Wk.go1 (fun _ g _ _ R _ _ _ _ _ _ _ _ _ _ _ ls hF hc hs hR hl k2 => ?_) kk
  refine W.lcmp hF.1 hF.2.1 hd ?_
  have e : lg_cmp a b = nZ (if a = b then 0 else if b < a then 1 else -1) := by
    unfold lg_cmp
    by_cases h : a = b
    · subst h
      have : ¬ a < a := fun h => lg_lt_not h h
      simp [this, nZ_0]
    · by_cases h2 : b < a
      · have e1 : (if a = b then (0 : Int) else if b < a then 1 else -1) = 1 := by rw [if_neg h, if_pos h2]
        rw [e1, if_pos h2]
        decide +kernel
      · have e1 : (if a = b then (0 : Int) else if b < a then 1 else -1) = -1 := by rw [if_neg h, if_neg h2]
        rw [e1, if_neg h2, if_neg h]
        decide +kernel
  rw [e]
  exact k2
/-- a switch: the place by the number, or none -/
theorem Wk.tabIn {dflt lo hi off z : Int} {offs : Array Int} {len t : Nat} (hd : decode (cxC cx) pc = .ok (.tableswitch dflt lo hi offs, len)) (hz : -2147483648 ≤ z ∧ z ≤ 2147483647) (h1 : lo ≤ z) (h2 : z ≤ hi) (ho : offs[(z - lo).toNat]? = some off) (ht : (pc : Int) + off = (t : Int)) (kk : Wk xs cx d bc bs t lv st X I L post) : Wk xs cx d bc bs pc lv (vi z :: st) X I L post := by
  refine Wk.go1 (fun _ g _ _ R _ _ _ _ _ _ _ _ _ _ _ ls hF hc hs hR hl k2 => ?_) kk
  have e := nZ_toInt hz.1 hz.2
  exact lv_tableIn hF.1 hF.2.1 hd (by rw [e]; omega) (by rw [e]; omega) (by rw [e]; exact ho) ht k2
theorem Wk.tabOut {dflt lo hi z : Int} {offs : Array Int} {len t : Nat} (hd : decode (cxC cx) pc = .ok (.tableswitch dflt lo hi offs, len)) (hz : -2147483648 ≤ z ∧ z ≤ 2147483647) (h : z < lo ∨ hi < z) (ht : (pc : Int) + dflt = (t : Int)) (kk : Wk xs cx d bc bs t lv st X I L post) : Wk xs cx d bc bs pc lv (vi z :: st) X I L post := by
  refine Wk.go1 (fun _ g _ _ R _ _ _ _ _ _ _ _ _ _ _ ls hF hc hs hR hl k2 => ?_) kk
  have e := nZ_toInt hz.1 hz.2
  exact lv_tableOut hF.1 hF.2.1 hd (by rw [e]; exact h) ht k2
end WKN
