/-! Wk's rows for the memory: fields, arrays, statics, the script, new cells -/
def iup (I : IM) (id : Nat) (z v : Int) : IM := fun a b => if a = id ∧ b = z then v else I a b
def lup (L : LM) (id : Nat) (z : Int) (v : Int64) : LM := fun a b => if a = id ∧ b = z then v else L a b
def sup (X : LY) (id : Nat) (S : SH) : LY := (X.1, fun k => if k = id then S else X.2 k)
theorem ent_cong {g : GB} {S : SH} {I I' : IM} {L L' : LM} {k : Nat} (hI : I' k = I k) (hL : L' k = L k) : ent g S I' L' k = ent g S I L k := by
  unfold ent entO
  rw [hI, hL]
theorem wsOf_set {g : GB} {X X' : LY} {I I' : IM} {L L' : LM} {id : Nat} {e : va_E} (hn : X'.1 = X.1) (hk : ∀ k, k ≠ id → X'.2 k = X.2 k ∧ I' k = I k ∧ L' k = L k) (he : ent g (X'.2 id) I' L' id = e) : (wsOf g X I L).set id (ad g id, e) = wsOf g X' I' L' := by
  apply List.ext_getElem?
  intro k
  by_cases hkn : k < X.1
  · rw [wsOf_at (by rw [hn]; exact hkn)]
    by_cases h : k = id
    · subst h
      rw [List.getElem?_set_self (by simpa [wsOf] using hkn), he]
    · rw [List.getElem?_set_ne (Ne.symm h), wsOf_at hkn]
      obtain ⟨h1, h2, h3⟩ := hk k h
      rw [h1, ent_cong h2 h3]
  · have e1 : (wsOf g X' I' L')[k]? = none := by simp [wsOf, hn]; omega
    have e2 : ((wsOf g X I L).set id (ad g id, e))[k]? = none := by simp [wsOf]; omega
    rw [e1, e2]
theorem wsOf_push {g : GB} {X X' : LY} {I I' : IM} {L L' : LM} {e : va_E} (hn : X'.1 = X.1 + 1) (hk : ∀ k, k < X.1 → X'.2 k = X.2 k ∧ I' k = I k ∧ L' k = L k) (he : ent g (X'.2 X.1) I' L' X.1 = e) : wsOf g X I L ++ [(ad g X.1, e)] = wsOf g X' I' L' := by
  unfold wsOf
  rw [hn, List.range_succ, List.map_append]
  congr 1
  · refine List.map_congr_left fun i hi => ?_
    obtain ⟨h1, h2, h3⟩ := hk i (List.mem_range.mp hi)
    rw [h1, ent_cong h2 h3]
  · simp [he]
theorem iup_other {I : IM} {id : Nat} {z v : Int} {k : Nat} (h : k ≠ id) : iup I id z v k = I k := by
  funext b
  simp [iup, h]
theorem lup_other {L : LM} {id : Nat} {z : Int} {v : Int64} {k : Nat} (h : k ≠ id) : lup L id z v k = L k := by
  funext b
  simp [lup, h]
/-- shapes of cells -/
def isO (X : LY) (id ci n : Nat) : Prop := id < X.1 ∧ (X.2 id).1 = ci ∧ (X.2 id).2.1 = n ∧ ci < 10
def isA (X : LY) (id tg : Nat) (N : Int) : Prop := id < X.1 ∧ (X.2 id).1 = tg ∧ ((X.2 id).2.1 : Int) = N ∧ N ≤ 1000000
theorem ent_o {g : GB} {X : LY} {I : IM} {L : LM} {id ci n : Nat} (h : isO X id ci n) : (wsOf g X I L)[id]? = some (ad g id, .inr (ci, entO g I id ci n (X.2 id).2.2)) := by
  obtain ⟨h1, h2, h3, h4⟩ := h
  rw [wsOf_at h1, ent, h2, h3, if_pos h4]
theorem ent_i {g : GB} {X : LY} {I : IM} {L : LM} {id : Nat} {N : Int} (h : isA X id 10 N) : (wsOf g X I L)[id]? = some (ad g id, .inl (g.2.2.2 10, (X.2 id).2.1, .inl fun j => nZ (I id (j : Int)))) := by
  obtain ⟨h1, h2, h3, -⟩ := h
  rw [wsOf_at h1, ent, h2, if_neg (by omega), if_neg (by omega), if_pos (by omega)]
theorem ent_z {g : GB} {X : LY} {I : IM} {L : LM} {id : Nat} {N : Int} (h : isA X id 12 N) : (wsOf g X I L)[id]? = some (ad g id, .inl (g.2.2.2 12, (X.2 id).2.1, .inl fun j => nZ (I id (j : Int)))) := by
  obtain ⟨h1, h2, h3, -⟩ := h
  rw [wsOf_at h1, ent, h2, if_neg (by omega), if_neg (by omega), if_pos (by omega)]
theorem ent_l {g : GB} {X : LY} {I : IM} {L : LM} {id : Nat} {N : Int} (h : isA X id 11 N) : (wsOf g X I L)[id]? = some (ad g id, .inl (g.2.2.2 11, (X.2 id).2.1, .inr (.inl fun j => L id (j : Int)))) := by
  obtain ⟨h1, h2, h3, -⟩ := h
  rw [wsOf_at h1, ent, h2, if_neg (by omega), if_pos rfl]
theorem ent_q {g : GB} {X : LY} {I : IM} {L : LM} {id tg : Nat} {N : Int} (h : isA X id tg N) (ht : tg = 13 ∨ tg = 14) : (wsOf g X I L)[id]? = some (ad g id, .inl (g.2.2.2 tg, (X.2 id).2.1, .inr (.inr (.inr (.inr fun j => ((X.2 id).2.2 j).map (ad g)))))) := by
  obtain ⟨h1, h2, h3, -⟩ := h
  rw [wsOf_at h1, ent, h2, if_neg (by omega), if_neg (by omega), if_neg (by omega)]
theorem entO_at {g : GB} {I : IM} {id ci n k : Nat} {rf : Nat → Option Nat} (hk : k < n) : (entO g I id ci n rf)[k]? = some (if rk ci k = true then va_rf ((rf k).map (ad g)) else .int (nZ (I id (k : Int)))) := by
  simp [entO, hk]
section WKM
variable {xs : RO} {cx : CX} {d bc bs pc q : Nat} {lv lv' : List (Option AV)} {st st' : List AV} {X : LY} {I : IM} {L : LM} {post : Option AV → LY → IM → LM → Prop}
theorem Wk.getI {idx ci n id k : Nat} {z : Int} (hF : FL (cxO cx) idx ci k) (hd : decode (cxC cx) pc = .ok (.getfield idx, 3)) (hO : isO X id ci n) (hk : k < n) (hr : rk ci k = false) (hz : (k : Int) = z) (hq : pc + 3 = q) (kk : Wk xs cx d bc bs q lv (vi (I id z) :: st) X I L post) : Wk xs cx d bc bs pc lv (vr id :: st) X I L post := by
  subst hq; subst hz
  obtain ⟨C, T, N, ty0, hC, hkN, hlk⟩ := hF
  refine Wk.go1 (fun _ g _ _ _ _ _ _ _ _ _ _ _ _ _ _ ls hF _ _ hR hl k2 => ?_) kk
  exact va_get (D := g.2.2.1) (cl := cls0) hF.1 hF.2.1 hF.2.2.2.2.1 hC.2.1 hF.2.2.2.1 hF.2.2.2.2.2.2.2.2.2.1 hR.1 id (ent_o hO) hC.1 k hkN (hF.2.2.2.2.1 _ hlk) (fun _ h => h) (by rw [entO_at hk, hr, if_neg (by decide)]; rfl) hd k2
theorem Wk.getR {idx ci n id k r : Nat} (hF : FL (cxO cx) idx ci k) (hd : decode (cxC cx) pc = .ok (.getfield idx, 3)) (hO : isO X id ci n) (hk : k < n) (hr : rk ci k = true) (hz : (X.2 id).2.2 k = some r) (hq : pc + 3 = q) (kk : Wk xs cx d bc bs q lv (vr r :: st) X I L post) : Wk xs cx d bc bs pc lv (vr id :: st) X I L post := by
  subst hq
  obtain ⟨C, T, N, ty0, hC, hkN, hlk⟩ := hF
  refine Wk.go1 (fun _ g _ _ _ _ _ _ _ _ _ _ _ _ _ _ ls hF _ _ hR hl k2 => ?_) kk
  exact va_get (D := g.2.2.1) (cl := cls0) hF.1 hF.2.1 hF.2.2.2.2.1 hC.2.1 hF.2.2.2.1 hF.2.2.2.2.2.2.2.2.2.1 hR.1 id (ent_o hO) hC.1 k hkN (hF.2.2.2.2.1 _ hlk) (fun _ h => h) (by rw [entO_at hk, hr, if_pos rfl, hz]; rfl) hd k2
/-- a step that changes the memory, not the number of cells -/
theorem Wk.goM {X' : LY} {I' : IM} {L' : LM} (h : ∀ (l : Launch) (g : GB) (p : Program) (e : Env) (R : Room) (s : State) (m : MethodId) (args : Array Value) (below : List Frame) (meth : Method) (c : Code) (Q : State → Prop) (H : Heap) (locs : List Loc) (cells slots : Nat) (ls : Array Slot),
    FOK g xs cx d p R s m args meth c → Rep g X I L s H locs → va_D (fun q => g.1 ≤ q) (wsOf g X I L) → ls.size = cxN cx →
    (∀ (H' : Heap) (locs' : List Loc), va_P g.2.2.1 cls0 (wsOf g X' I' L') H' → va_S (fun q => g.1 ≤ q) s.heap H' locs' → W p l e R s m args below meth c H' locs' cells slots Q (F0 m q ls (st'.map (cv g)))) → W p l e R s m args below meth c H locs cells slots Q (F0 m pc ls (st.map (cv g))))
    (hX : X'.1 = X.1) (k : Wk xs cx d bc bs q lv st' X' I' L' post) : Wk xs cx d bc bs pc lv st X I L post := by
  intro l g p e R s m args below meth c Q H locs cells slots ls hF hc hs hR hE hl hex
  exact h l g p e R s m args below meth c Q H locs cells slots ls hF hR (wsOf_D hR.2.1) hl.1 (fun H' locs' hP hS => k l g p e R s m args below meth c Q H' locs' cells slots ls hF hc hs ⟨hP, by rw [hX]; exact hR.2.1, hS⟩ (by rw [hX]; exact hE) hl hex)
theorem entO_setI {g : GB} {I : IM} {id ci n k : Nat} {rf : Nat → Option Nat} {v : Int} (hr : rk ci k = false) : (entO g I id ci n rf).set k (.int (nZ v)) = entO g (iup I id (k : Int) v) id ci n rf := by
  apply List.ext_getElem?
  intro j
  by_cases hj : j < n
  · rw [entO_at hj]
    by_cases h : j = k
    · subst h
      rw [List.getElem?_set_self (by simpa [entO] using hj), hr]
      simp [iup]
    · rw [List.getElem?_set_ne (Ne.symm h), entO_at hj]
      have : ¬ ((j : Int) = (k : Int)) := by omega
      simp [iup, this]
  · have e1 : ((entO g I id ci n rf).set k (.int (nZ v)))[j]? = none := by simp [entO]; omega
    have e2 : (entO g (iup I id (k : Int) v) id ci n rf)[j]? = none := by simp [entO]; omega
    rw [e1, e2]
theorem entO_setR {g : GB} {I : IM} {id ci n k r : Nat} {rf : Nat → Option Nat} (hr : rk ci k = true) : (entO g I id ci n rf).set k (.ref (ad g r)) = entO g I id ci n (fun j => if j = k then some r else rf j) := by
  apply List.ext_getElem?
  intro j
  by_cases hj : j < n
  · rw [entO_at hj]
    by_cases h : j = k
    · subst h
      rw [List.getElem?_set_self (by simpa [entO] using hj), hr]
      simp [va_rf]
    · rw [List.getElem?_set_ne (Ne.symm h), entO_at hj]
      simp [h]
  · have e1 : ((entO g I id ci n rf).set k (.ref (ad g r)))[j]? = none := by simp [entO]; omega
    have e2 : (entO g I id ci n (fun j => if j = k then some r else rf j))[j]? = none := by simp [entO]; omega
    rw [e1, e2]
theorem ent_obj {g : GB} {S : SH} {I : IM} {L : LM} {id : Nat} (h : S.1 < 10) : ent g S I L id = .inr (S.1, entO g I id S.1 S.2.1 S.2.2) := by
  rw [ent, if_pos h]
/-- a field of ints (or a boolean one) is written -/
theorem Wk.putI {idx ci n id k : Nat} {z v : Int} {ty : FieldType} (hF : FL (cxO cx) idx ci k) (hw : FW ci k ty false) (hd : decode (cxC cx) pc = .ok (.putfield idx, 3)) (hO : isO X id ci n) (hk : k < n) (hr : rk ci k = false) (hz : (k : Int) = z) (hn : narrow ty (.int (nZ v)) = .int (nZ v) ∧ fits ty (.int (nZ v)) = true) (hq : pc + 3 = q) (kk : Wk xs cx d bc bs q lv st X (iup I id z v) L post) : Wk xs cx d bc bs pc lv (vi v :: vr id :: st) X I L post := by
  subst hq; subst hz
  obtain ⟨C, T, N, ty0, hC, hkN, hlk⟩ := hF
  obtain ⟨w1, w2, -⟩ := hw _ _ _ _ hC
  refine Wk.goM (fun _ g _ _ _ _ _ _ _ _ _ _ _ _ _ _ ls hF hR hD _ k2 => ?_) rfl kk
  refine va_put (D := g.2.2.1) (cl := cls0) (v := .int (nZ v)) hF.1 hF.2.1 hF.2.2.2.2.1 hC.2.1 ty0 hC.2.2.1 hC.2.2.2.1 hF.2.2.2.1 hF.2.2.2.2.2.2.2.2.2.1 hR.1 hD hR.2.2 id (ent_o hO) hC.1 k hkN (hF.2.2.2.2.1 _ hlk) (fun _ h => h) w1 w2 hn.1 hn.2 (by simpa [entO] using hk) hd (fun H1 locs1 hP _ hS => k2 H1 locs1 ?_ hS)
  rw [entO_setI hr, wsOf_set (X' := X) (I' := iup I id (k : Int) v) (L' := L) rfl (fun j hj => ⟨rfl, iup_other hj, rfl⟩) (by rw [ent_obj (by rw [hO.2.1]; exact hO.2.2.2), hO.2.1, hO.2.2.1])] at hP
  exact hP
/-- a final field of references is written, in the constructor -/
theorem Wk.putF {idx ci n id k r : Nat} {ty : FieldType} (hF : FL (cxO cx) idx ci k) (hw : FW ci k ty true) (hi : cxI cx = true) (hown : ∀ C T N ty0, CK ci C T N ty0 → C = cxO cx) (hd : decode (cxC cx) pc = .ok (.putfield idx, 3)) (hO : isO X id ci n) (hk : k < n) (hr : rk ci k = true) (hn : ∀ a : Nat, narrow ty (.ref a) = .ref a ∧ fits ty (.ref a) = true) (hq : pc + 3 = q) (kk : Wk xs cx d bc bs q lv st (sup X id (ci, n, fun j => if j = k then some r else (X.2 id).2.2 j)) I L post) : Wk xs cx d bc bs pc lv (vr r :: vr id :: st) X I L post := by
  subst hq
  obtain ⟨C, T, N, ty0, hC, hkN, hlk⟩ := hF
  obtain ⟨w1, w2, w3⟩ := hw _ _ _ _ hC
  refine Wk.goM (fun _ g _ _ _ _ _ _ _ _ _ _ _ _ _ _ ls hF hR hD _ k2 => ?_) (by rfl) kk
  refine va_putF (D := g.2.2.1) (cl := cls0) (v := .ref (ad g r)) hF.1 hF.2.1 hF.2.2.2.2.1 hC.2.1 ty0 hC.2.2.1 hC.2.2.2.1 hF.2.2.2.1 hF.2.2.2.2.2.2.2.2.2.1 hR.1 hD hR.2.2 id (ent_o hO) hC.1 k hkN (hF.2.2.2.2.1 _ hlk) (fun _ h => h) w1 (hF.2.2.2.2.2.1 hi) (w3.trans (hown _ _ _ _ hC)) w2 (hn _).1 (hn _).2 (by simpa [entO] using hk) hd (fun H1 locs1 hP _ hS => k2 H1 locs1 ?_ hS)
  rw [entO_setR hr, wsOf_set (X := X) (X' := sup X id (ci, n, fun j => if j = k then some r else (X.2 id).2.2 j)) (I' := I) (L' := L) rfl (fun j hj => ⟨by simp [sup, hj], rfl, rfl⟩) (by simp only [sup, if_true]; rw [ent_obj hO.2.2.2])] at hP
  exact hP
theorem Wk.iaload {id : Nat} {z N : Int} (hd : decode (cxC cx) pc = .ok (.iaload, 1)) (hA : isA X id 10 N) (h0 : 0 ≤ z) (h1 : z < N) (hq : pc + 1 = q) (kk : Wk xs cx d bc bs q lv (vi (I id z) :: st) X I L post) : Wk xs cx d bc bs pc lv (vi z :: vr id :: st) X I L post := by
  subst hq
  have hN := hA.2.2.1
  have hM := hA.2.2.2
  refine Wk.go1 (fun _ g _ _ _ _ _ _ _ _ _ _ _ _ _ _ ls hF _ _ hR hl k2 => ?_) kk
  refine va_iald (D := g.2.2.1) (cl := cls0) hF.1 hF.2.1 hF.2.2.2.2.2.2.2.2.2.1 hR.1 id 0 (ent_i hA) rfl (nZ_in h0 (by omega) (by omega)) hd ?_
  rw [nZ_cl h0 (by omega), Int.toNat_of_nonneg h0]
  exact k2
theorem Wk.baload {id : Nat} {z N : Int} (hd : decode (cxC cx) pc = .ok (.baload, 1)) (hA : isA X id 12 N) (h0 : 0 ≤ z) (h1 : z < N) (hq : pc + 1 = q) (kk : Wk xs cx d bc bs q lv (vi (I id z) :: st) X I L post) : Wk xs cx d bc bs pc lv (vi z :: vr id :: st) X I L post := by
  subst hq
  have hN := hA.2.2.1
  have hM := hA.2.2.2
  refine Wk.go1 (fun _ g _ _ _ _ _ _ _ _ _ _ _ _ _ _ ls hF _ _ hR hl k2 => ?_) kk
  refine va_zald (D := g.2.2.1) (cl := cls0) hF.1 hF.2.1 hF.2.2.2.2.2.2.2.2.2.1 hR.1 id 2 (ent_z hA) rfl (nZ_in h0 (by omega) (by omega)) hd ?_
  rw [nZ_cl h0 (by omega), Int.toNat_of_nonneg h0]
  exact k2
theorem Wk.laload {id : Nat} {z N : Int} (hd : decode (cxC cx) pc = .ok (.laload, 1)) (hA : isA X id 11 N) (h0 : 0 ≤ z) (h1 : z < N) (hq : pc + 1 = q) (kk : Wk xs cx d bc bs q lv (vl (L id z) :: st) X I L post) : Wk xs cx d bc bs pc lv (vi z :: vr id :: st) X I L post := by
  subst hq
  have hN := hA.2.2.1
  have hM := hA.2.2.2
  refine Wk.go1 (fun _ g _ _ _ _ _ _ _ _ _ _ _ _ _ _ ls hF _ _ hR hl k2 => ?_) kk
  refine va_lald (D := g.2.2.1) (cl := cls0) hF.1 hF.2.1 hF.2.2.2.2.2.2.2.2.2.1 hR.1 id 1 (ent_l hA) rfl (nZ_in h0 (by omega) (by omega)) hd ?_
  rw [nZ_cl h0 (by omega), Int.toNat_of_nonneg h0]
  exact k2
theorem Wk.aaload {id r tg : Nat} {z N : Int} (hd : decode (cxC cx) pc = .ok (.aaload, 1)) (hA : isA X id tg N) (ht : tg = 13 ∨ tg = 14) (h0 : 0 ≤ z) (h1 : z < N) (hz : (X.2 id).2.2 z.toNat = some r) (hq : pc + 1 = q) (kk : Wk xs cx d bc bs q lv (vr r :: st) X I L post) : Wk xs cx d bc bs pc lv (vi z :: vr id :: st) X I L post := by
  subst hq
  have hN := hA.2.2.1
  have hM := hA.2.2.2
  refine Wk.go1 (fun _ g _ _ _ _ _ _ _ _ _ _ _ _ _ _ ls hF _ _ hR hl k2 => ?_) kk
  rcases ht with rfl | rfl
  · refine va_aldq (D := g.2.2.1) (cl := cls0) hF.1 hF.2.1 hF.2.2.2.2.2.2.2.2.2.1 hR.1 id 3 (ent_q hA (Or.inl rfl)) rfl (nZ_in h0 (by omega) (by omega)) hd ?_
    rw [nZ_cl h0 (by omega), hz]
    exact k2
  · refine va_aldq (D := g.2.2.1) (cl := cls0) hF.1 hF.2.1 hF.2.2.2.2.2.2.2.2.2.1 hR.1 id 4 (ent_q hA (Or.inr rfl)) rfl (nZ_in h0 (by omega) (by omega)) hd ?_
    rw [nZ_cl h0 (by omega), hz]
    exact k2
theorem upd_iup {I : IM} {id : Nat} {z v : Int} (h0 : 0 ≤ z) : (upd (fun j : Nat => nZ (I id (j : Int))) z.toNat (nZ v)) = fun j : Nat => nZ (iup I id z v id (j : Int)) := by
  funext j
  by_cases h : j = z.toNat
  · subst h
    rw [pk_us]
    have e : ((z.toNat : Nat) : Int) = z := Int.toNat_of_nonneg h0
    simp only [iup, e, and_self, if_true]
  · rw [pk_un h]
    have : ¬ ((j : Int) = z) := by omega
    simp [iup, this]
theorem ent_arr {g : GB} {S : SH} {I : IM} {L : LM} {id tg : Nat} (h : S.1 = tg) (ht : tg = 10 ∨ tg = 12) : ent g S I L id = .inl (g.2.2.2 tg, S.2.1, .inl fun j => nZ (I id (j : Int))) := by
  rw [ent, if_neg (by omega), if_neg (by omega), if_pos (by omega), h]
theorem Wk.iastore {id : Nat} {z v N : Int} (hd : decode (cxC cx) pc = .ok (.iastore, 1)) (hA : isA X id 10 N) (h0 : 0 ≤ z) (h1 : z < N) (hq : pc + 1 = q) (kk : Wk xs cx d bc bs q lv st X (iup I id z v) L post) : Wk xs cx d bc bs pc lv (vi v :: vi z :: vr id :: st) X I L post := by
  subst hq
  have hN := hA.2.2.1
  have hM := hA.2.2.2
  refine Wk.goM (fun _ g _ _ _ _ _ _ _ _ _ _ _ _ _ _ ls hF hR hD _ k2 => ?_) rfl kk
  refine va_iast (D := g.2.2.1) (cl := cls0) hF.1 hF.2.1 hF.2.2.2.2.2.2.2.2.2.1 hR.1 hD hR.2.2 id 0 (ent_i hA) rfl (nZ_in h0 (by omega) (by omega)) hd (fun H1 locs1 hP _ hS => k2 H1 locs1 ?_ hS)
  rw [nZ_cl h0 (by omega), upd_iup h0, wsOf_set (X' := X) (I' := iup I id z v) (L' := L) rfl (fun j hj => ⟨rfl, iup_other hj, rfl⟩) (ent_arr hA.2.1 (Or.inl rfl))] at hP
  exact hP
theorem Wk.bastore {id : Nat} {z v N : Int} (hd : decode (cxC cx) pc = .ok (.bastore, 1)) (hA : isA X id 12 N) (h0 : 0 ≤ z) (h1 : z < N) (hv : v = 0 ∨ v = 1) (hq : pc + 1 = q) (kk : Wk xs cx d bc bs q lv st X (iup I id z v) L post) : Wk xs cx d bc bs pc lv (vi v :: vi z :: vr id :: st) X I L post := by
  subst hq
  have hN := hA.2.2.1
  have hM := hA.2.2.2
  refine Wk.goM (fun _ g _ _ _ _ _ _ _ _ _ _ _ _ _ _ ls hF hR hD _ k2 => ?_) rfl kk
  refine va_zast (D := g.2.2.1) (cl := cls0) hF.1 hF.2.1 hF.2.2.2.2.2.2.2.2.2.1 hR.1 hD hR.2.2 id 2 (ent_z hA) rfl (nZ_in h0 (by omega) (by omega)) hd (fun H1 locs1 hP _ hS => k2 H1 locs1 ?_ hS)
  have hv2 : vp_nar .boolean (nZ v) = nZ v := by rcases hv with rfl | rfl <;> decide +kernel
  rw [hv2, nZ_cl h0 (by omega), upd_iup h0, wsOf_set (X' := X) (I' := iup I id z v) (L' := L) rfl (fun j hj => ⟨rfl, iup_other hj, rfl⟩) (ent_arr hA.2.1 (Or.inr rfl))] at hP
  exact hP
theorem upd_lup {L : LM} {id : Nat} {z : Int} {v : Int64} (h0 : 0 ≤ z) : (vp_updL (fun j : Nat => L id (j : Int)) z.toNat v) = fun j : Nat => lup L id z v id (j : Int) := by
  funext j
  by_cases h : j = z.toNat
  · subst h
    rw [pk_uLs]
    have e : ((z.toNat : Nat) : Int) = z := Int.toNat_of_nonneg h0
    simp only [lup, e, and_self, if_true]
  · rw [pk_uLn h]
    have : ¬ ((j : Int) = z) := by omega
    simp [lup, this]
theorem Wk.lastore {id : Nat} {z N : Int} {v : Int64} (hd : decode (cxC cx) pc = .ok (.lastore, 1)) (hA : isA X id 11 N) (h0 : 0 ≤ z) (h1 : z < N) (hq : pc + 1 = q) (kk : Wk xs cx d bc bs q lv st X I (lup L id z v) post) : Wk xs cx d bc bs pc lv (vl v :: vi z :: vr id :: st) X I L post := by
  subst hq
  have hN := hA.2.2.1
  have hM := hA.2.2.2
  refine Wk.goM (fun _ g _ _ _ _ _ _ _ _ _ _ _ _ _ _ ls hF hR hD _ k2 => ?_) rfl kk
  refine va_last (D := g.2.2.1) (cl := cls0) hF.1 hF.2.1 hF.2.2.2.2.2.2.2.2.2.1 hR.1 hD hR.2.2 id 1 (ent_l hA) rfl (nZ_in h0 (by omega) (by omega)) hd (fun H1 locs1 hP _ hS => k2 H1 locs1 ?_ hS)
  rw [nZ_cl h0 (by omega), upd_lup h0, wsOf_set (X' := X) (I' := I) (L' := lup L id z v) rfl (fun j hj => ⟨rfl, rfl, lup_other hj⟩) (by rw [ent, if_neg (by rw [hA.2.1]; omega), if_pos hA.2.1])] at hP
  exact hP
theorem Wk.alen {id tg : Nat} {N : Int} (hd : decode (cxC cx) pc = .ok (.arraylength, 1)) (hA : isA X id tg N) (ht : tg = 10) (hq : pc + 1 = q) (kk : Wk xs cx d bc bs q lv (vi N :: st) X I L post) : Wk xs cx d bc bs pc lv (vr id :: st) X I L post := by
  subst hq; subst ht
  have hN := hA.2.2.1
  refine Wk.go1 (fun _ g _ _ _ _ _ _ _ _ _ _ _ _ _ _ ls hF _ _ hR hl k2 => ?_) kk
  refine va_alen (D := g.2.2.1) (cl := cls0) (v := nZ N) hF.1 hF.2.1 hF.2.2.2.2.2.2.2.2.2.1 hR.1 id 0 (ent_i hA) rfl ?_ hd k2
  rw [← hN]
  rfl
/-- the tables of winds: two statics, read -/
theorem Wk.getsX {idx : Nat} (hF : FLS (cxO cx) idx "WIND_X") (hd : decode (cxC cx) pc = .ok (.getstatic idx, 3)) (hq : pc + 3 = q) (kk : Wk xs cx d bc bs q lv (vr 1000001 :: st) X I L post) : Wk xs cx d bc bs pc lv st X I L post := by
  subst hq
  refine Wk.go1 (fun _ g _ _ _ _ _ _ _ _ _ _ _ _ _ _ ls hF2 _ _ hR hl k2 => ?_) kk
  exact va_getsN hF2.1 hF2.2.1 hF2.2.2.2.2.2.2.2.2.2.2.1 hR.2.2 hF2.2.2.2.1 (va_Nw.use rfl (hF2.2.2.2.2.2.2.2.2.2.2.2.2.2.2.2.1 _ hF)) (fun _ h => h) hd k2
theorem Wk.getsY {idx : Nat} (hF : FLS (cxO cx) idx "WIND_Y") (hd : decode (cxC cx) pc = .ok (.getstatic idx, 3)) (hq : pc + 3 = q) (kk : Wk xs cx d bc bs q lv (vr 1000002 :: st) X I L post) : Wk xs cx d bc bs pc lv st X I L post := by
  subst hq
  refine Wk.go1 (fun _ g _ _ _ _ _ _ _ _ _ _ _ _ _ _ ls hF2 _ _ hR hl k2 => ?_) kk
  exact va_getsN hF2.1 hF2.2.1 hF2.2.2.2.2.2.2.2.2.2.2.2.2.1 hR.2.2 hF2.2.2.2.1 (va_Nw.use rfl (hF2.2.2.2.2.2.2.2.2.2.2.2.2.2.2.2.1 _ hF)) (fun _ h => h) hd k2
theorem Wk.ialX {z : Int} (hd : decode (cxC cx) pc = .ok (.iaload, 1)) (h0 : 0 ≤ z) (h1 : z < 8) (hq : pc + 1 = q) (kk : Wk xs cx d bc bs q lv (vi (windX z) :: st) X I L post) : Wk xs cx d bc bs pc lv (vi z :: vr 1000001 :: st) X I L post := by
  subst hq
  refine Wk.go1 (fun _ g _ _ _ _ _ _ _ _ _ _ _ _ _ _ ls hF _ _ hR hl k2 => ?_) kk
  exact va_ti hF.1 hF.2.1 hF.2.2.2.2.2.2.2.2.2.2.2.1 hR.2.2 (nZ_in h0 (by omega) (by omega)) (by rw [nZ_cl h0 (by omega), Int.toNat_of_nonneg h0]; rfl) hd k2
theorem Wk.ialY {z : Int} (hd : decode (cxC cx) pc = .ok (.iaload, 1)) (h0 : 0 ≤ z) (h1 : z < 8) (hq : pc + 1 = q) (kk : Wk xs cx d bc bs q lv (vi (windY z) :: st) X I L post) : Wk xs cx d bc bs pc lv (vi z :: vr 1000002 :: st) X I L post := by
  subst hq
  refine Wk.go1 (fun _ g _ _ _ _ _ _ _ _ _ _ _ _ _ _ ls hF _ _ hR hl k2 => ?_) kk
  exact va_ti hF.1 hF.2.1 hF.2.2.2.2.2.2.2.2.2.2.2.2.2.1 hR.2.2 (nZ_in h0 (by omega) (by omega)) (by rw [nZ_cl h0 (by omega), Int.toNat_of_nonneg h0]; rfl) hd k2
/-- the script, read -/
theorem Wk.ialS {z : Int} (hd : decode (cxC cx) pc = .ok (.iaload, 1)) (h0 : 0 ≤ z) (h1 : z < xs.1) (hq : pc + 1 = q) (kk : Wk xs cx d bc bs q lv (vi (xs.2 z) :: st) X I L post) : Wk xs cx d bc bs pc lv (vi z :: vr 1000000 :: st) X I L post := by
  subst hq
  refine Wk.go1 (fun _ g _ _ _ _ _ _ _ _ _ _ _ _ _ _ ls hF _ _ hR hl k2 => ?_) kk
  have hb : xs.1 < 2147483648 := hF.2.2.2.2.2.2.2.2.2.2.2.2.2.2.2.2.2.2
  exact va_ti hF.1 hF.2.1 hF.2.2.2.2.2.2.2.2.2.2.2.2.2.2.1 hR.2.2 (nZ_in h0 h1 hb) (by rw [nZ_cl h0 (by omega), Int.toNat_of_nonneg h0]; rfl) hd k2
theorem Wk.alenS {N : Int} (hN : (xs.1 : Int) = N) (hd : decode (cxC cx) pc = .ok (.arraylength, 1)) (hq : pc + 1 = q) (kk : Wk xs cx d bc bs q lv (vi N :: st) X I L post) : Wk xs cx d bc bs pc lv (vr 1000000 :: st) X I L post := by
  subst hq; subst hN
  refine Wk.go1 (fun _ g _ _ _ _ _ _ _ _ _ _ _ _ _ _ ls hF _ _ hR hl k2 => ?_) kk
  exact va_tlen hF.1 hF.2.1 hF.2.2.2.2.2.2.2.2.2.2.2.2.2.2.1 hR.2.2 rfl hd k2
end WKM
