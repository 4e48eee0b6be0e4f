/-! OBJECTS ARE MADE: layouts that grow -/
section MK
variable {xs : RO} {cx : CX} {d bc bs pc q : Nat} {lv : List (Option AV)} {st : List AV} {X : LY} {I : IM} {L : LM} {post : Option AV → LY → IM → LM → Prop}
theorem Wk.mono {bc' bs' : Nat} (h : Wk xs cx d bc bs pc lv st X I L post) (h1 : bc ≤ bc') (h2 : bs ≤ bs') : Wk xs cx d bc' bs' pc lv st X I L post := by
  intro l g p e R s m args below meth c Q H locs cells slots ls hF hc hs hR hE hl hex
  exact h l g p e R s m args below meth c Q H locs cells slots ls hF (by omega) (by omega) hR hE hl (fun v X1 I1 L1 H1 locs1 cells1 slots1 ls1 pc1 hp1 hc1 hs1 => hex v X1 I1 L1 H1 locs1 cells1 slots1 ls1 pc1 hp1 (by omega) (by omega))
/-- a weaker end -/
theorem Wk.weak {post' : Option AV → LY → IM → LM → Prop} (h : Wk xs cx d bc bs pc lv st X I L post') (hp : ∀ v X' I' L', post' v X' I' L' → post v X' I' L') : Wk xs cx d bc bs pc lv st X I L post := by
  intro l g p e R s m args below meth c Q H locs cells slots ls hF hc hs hR hE hl hex
  exact h l g p e R s m args below meth c Q H locs cells slots ls hF hc hs hR hE hl (fun v X1 I1 L1 H1 locs1 cells1 slots1 ls1 pc1 hp1 => hex v X1 I1 L1 H1 locs1 cells1 slots1 ls1 pc1 (hp _ _ _ _ hp1))
/-- only the cells that there are count -/
theorem Wk.ext {X' : LY} (h1 : X'.1 = X.1) (h2 : ∀ k, k < X.1 → X'.2 k = X.2 k) (kk : Wk xs cx d bc bs pc lv st X' I L post) : Wk xs cx d bc bs pc lv st X I L post := by
  intro l g p e R s m args below meth c Q H locs cells slots ls hF hc hs hR hE hl hex
  have e1 : wsOf g X' I L = wsOf g X I L := by
    unfold wsOf
    rw [h1]
    exact List.map_congr_left fun i hi => by rw [h2 i (List.mem_range.mp hi)]
  exact kk l g p e R s m args below meth c Q H locs cells slots ls hF hc hs ⟨by rw [e1]; exact hR.1, by rw [h1]; exact hR.2.1, hR.2.2⟩ (by rw [h1]; exact hE) hl hex
/-- m cells, shaped as F says but for the object o, which is being made -/
def OX (F : Nat → SH) (o ci n : Nat) (rf : Nat → Option Nat) (m : Nat) : LY := (m, fun k => if k = o then (ci, n, rf) else F k)
theorem OX_o (F : Nat → SH) (o ci n : Nat) (rf : Nat → Option Nat) (m : Nat) : (OX F o ci n rf m).2 o = (ci, n, rf) := by
  show (if o = o then _ else _) = _
  rw [if_pos rfl]
theorem OX_ne {F : Nat → SH} {o ci n : Nat} {rf : Nat → Option Nat} {m k : Nat} (h : ¬ k = o) : (OX F o ci n rf m).2 k = F k := by
  show (if k = o then _ else _) = _
  rw [if_neg h]
theorem isO_OX {F : Nat → SH} {o ci n : Nat} {rf : Nat → Option Nat} {m : Nat} (h : o < m) (hc : ci < 10) : isO (OX F o ci n rf m) o ci n := ⟨h, by rw [OX_o], by rw [OX_o], hc⟩
/-- a reference is put into the object -/
theorem Wk.pf {F : Nat → SH} {o ci n f r idx m : Nat} {rf : Nat → Option Nat} {ty : FieldType} (hF : FL (cxO cx) idx ci f) (hw : FW ci f ty true) (hi : cxI cx = true) (hown : ∀ C T N ty0, CK ci C T N ty0 → C = cxO cx) (hd : decode (cxC cx) pc = .ok (.putfield idx, 3)) (ho : o < m) (hc : ci < 10) (hf : f < n) (hr : rk ci f = true) (hn : ∀ a : Nat, narrow ty (.ref a) = .ref a ∧ fits ty (.ref a) = true) (hq : pc + 3 = q) (kk : Wk xs cx d bc bs q lv st (OX F o ci n (fun j => if j = f then some r else rf j) m) I L post) : Wk xs cx d bc bs pc lv (vr r :: vr o :: st) (OX F o ci n rf m) I L post := by
  refine Wk.putF (n := n) hF hw hi hown hd (isO_OX ho hc) hf hr hn hq ?_
  refine Wk.ext (X' := OX F o ci n (fun j => if j = f then some r else rf j) m) rfl (fun k hk => ?_) kk
  show (if k = o then _ else F k) = (if k = o then _ else (OX F o ci n rf m).2 k)
  by_cases h : k = o
  · rw [if_pos h, if_pos h, OX_o]
  · rw [if_neg h, if_neg h, OX_ne h]
theorem OX_push {F : Nat → SH} {o ci n : Nat} {rf : Nat → Option Nat} {m : Nat} {S : SH} (ho : o < m) (hS : F m = S) : ∀ k, k < (spush (OX F o ci n rf m) S).1 → (OX F o ci n rf (m + 1)).2 k = (spush (OX F o ci n rf m) S).2 k := fun k hk => by
  show (if k = o then _ else _) = (if k = m then _ else (if k = o then _ else _))
  by_cases h : k = m
  · rw [if_neg (by omega), if_pos h, h, hS]
  · rw [if_neg h]
/-- an array is made and put into the object -/
theorem Wk.mkI {F : Nat → SH} {o ci n f idx m N : Nat} {z : Int} {rf : Nat → Option Nat} {ty : FieldType} (hz : (N : Int) = z) (hN : N ≤ 100000) (hd0 : decode (cxC cx) pc = .ok (.newarray .int, 2)) (hm : m + 1 < 1000000) (hS : F m = (10, N, fun _ => none)) (hF : FL (cxO cx) idx ci f) (hw : FW ci f ty true) (hi : cxI cx = true) (hown : ∀ C T N ty0, CK ci C T N ty0 → C = cxO cx) (hd : decode (cxC cx) (pc + 2) = .ok (.putfield idx, 3)) (ho : o < m) (hc : ci < 10) (hf : f < n) (hr : rk ci f = true) (hn : ∀ a : Nat, narrow ty (.ref a) = .ref a ∧ fits ty (.ref a) = true) (hq : pc + 5 = q) (kk : Wk xs cx d bc bs q lv st (OX F o ci n (fun j => if j = f then some m else rf j) (m + 1)) (iz I m) L post) : Wk xs cx d (bc + 1) (bs + N) pc lv (vi z :: vr o :: st) (OX F o ci n rf m) I L post := by
  refine Wk.newI hz hN hd0 hm rfl ?_
  refine Wk.ext (X' := OX F o ci n rf (m + 1)) rfl (OX_push ho hS) ?_
  exact Wk.pf hF hw hi hown hd (by omega) hc hf hr hn (by omega) kk
theorem Wk.mkZ {F : Nat → SH} {o ci n f idx m N : Nat} {z : Int} {rf : Nat → Option Nat} {ty : FieldType} (hz : (N : Int) = z) (hN : N ≤ 100000) (hd0 : decode (cxC cx) pc = .ok (.newarray .boolean, 2)) (hm : m + 1 < 1000000) (hS : F m = (12, N, fun _ => none)) (hF : FL (cxO cx) idx ci f) (hw : FW ci f ty true) (hi : cxI cx = true) (hown : ∀ C T N ty0, CK ci C T N ty0 → C = cxO cx) (hd : decode (cxC cx) (pc + 2) = .ok (.putfield idx, 3)) (ho : o < m) (hc : ci < 10) (hf : f < n) (hr : rk ci f = true) (hn : ∀ a : Nat, narrow ty (.ref a) = .ref a ∧ fits ty (.ref a) = true) (hq : pc + 5 = q) (kk : Wk xs cx d bc bs q lv st (OX F o ci n (fun j => if j = f then some m else rf j) (m + 1)) (iz I m) L post) : Wk xs cx d (bc + 1) (bs + N) pc lv (vi z :: vr o :: st) (OX F o ci n rf m) I L post := by
  refine Wk.newZ hz hN hd0 hm rfl ?_
  refine Wk.ext (X' := OX F o ci n rf (m + 1)) rfl (OX_push ho hS) ?_
  exact Wk.pf hF hw hi hown hd (by omega) hc hf hr hn (by omega) kk
theorem Wk.mkL {F : Nat → SH} {o ci n f idx m N : Nat} {z : Int} {rf : Nat → Option Nat} {ty : FieldType} (hz : (N : Int) = z) (hN : N ≤ 100000) (hd0 : decode (cxC cx) pc = .ok (.newarray .long, 2)) (hm : m + 1 < 1000000) (hS : F m = (11, N, fun _ => none)) (hF : FL (cxO cx) idx ci f) (hw : FW ci f ty true) (hi : cxI cx = true) (hown : ∀ C T N ty0, CK ci C T N ty0 → C = cxO cx) (hd : decode (cxC cx) (pc + 2) = .ok (.putfield idx, 3)) (ho : o < m) (hc : ci < 10) (hf : f < n) (hr : rk ci f = true) (hn : ∀ a : Nat, narrow ty (.ref a) = .ref a ∧ fits ty (.ref a) = true) (hq : pc + 5 = q) (kk : Wk xs cx d bc bs q lv st (OX F o ci n (fun j => if j = f then some m else rf j) (m + 1)) I (lz L m) post) : Wk xs cx d (bc + 1) (bs + N) pc lv (vi z :: vr o :: st) (OX F o ci n rf m) I L post := by
  refine Wk.newL hz hN hd0 hm rfl ?_
  refine Wk.ext (X' := OX F o ci n rf (m + 1)) rfl (OX_push ho hS) ?_
  exact Wk.pf hF hw hi hown hd (by omega) hc hf hr hn (by omega) kk
/-- an object is made -/
theorem Wk.mkO {F : Nat → SH} {m idx ci n : Nat} {C : String} {T : u_T} {ty0 : Nat → FieldType} (hcl : Cond.classLink (cxO cx) idx C ∈ gtbl) (hin : Cond.instantiable C n ∈ gtbl ∧ Cond.initialized C ∈ gtbl) (hC : CK ci C T n ty0) (hdf : ∀ k, k < n → defaultValue (ty0 k) = if rk ci k = true then .null else .int 0) (hd : decode (cxC cx) pc = .ok (.new idx, 3)) (hX : m + 1 < 1000000) (hq : pc + 3 = q)
    (kk : Wk xs cx d bc bs q lv (vr m :: st) (OX F m ci n (fun _ => none) (m + 1)) (iz I m) L post) : Wk xs cx d (bc + 1) (bs + n) pc lv st (m, F) I L post :=
  Wk.newO (X := (m, F)) hcl hin hC hdf hd hX hq kk
end MK
theorem iz_ne {I : IM} {id k : Nat} (h : ¬ k = id) : iz I id k = I k := by
  funext b
  simp only [iz]
  rw [if_neg h]
theorem iz_at (I : IM) (id : Nat) (b : Int) : iz I id id b = 0 := by simp [iz]
theorem own_Harb : ∀ C T N ty0, CK 1 C T N ty0 → C = "SwungShips$Harbour" := fun C T N ty0 h => (congrArg Prod.fst (Option.some.inj (ck_Harb.1.symm.trans h.1))).symm
theorem own_Hist : ∀ C T N ty0, CK 2 C T N ty0 → C = "SwungShips$History" := fun C T N ty0 h => (congrArg Prod.fst (Option.some.inj (ck_Hist.1.symm.trans h.1))).symm
theorem own_Imag : ∀ C T N ty0, CK 3 C T N ty0 → C = "SwungShips$Image" := fun C T N ty0 h => (congrArg Prod.fst (Option.some.inj (ck_Imag.1.symm.trans h.1))).symm
theorem own_Sear : ∀ C T N ty0, CK 4 C T N ty0 → C = "SwungShips$Search" := fun C T N ty0 h => (congrArg Prod.fst (Option.some.inj (ck_Sear.1.symm.trans h.1))).symm
theorem own_Book : ∀ C T N ty0, CK 0 C T N ty0 → C = "SwungShips$Book" := fun C T N ty0 h => (congrArg Prod.fst (Option.some.inj (ck_Book.1.symm.trans h.1))).symm
theorem own_Sw : ∀ C T N ty0, CK 5 C T N ty0 → C = "SwungShips" := fun C T N ty0 h => (congrArg Prod.fst (Option.some.inj (ck_Sw.1.symm.trans h.1))).symm
theorem own_Mod : ∀ C T N ty0, CK 6 C T N ty0 → C = "SwungShipsModel" := fun C T N ty0 h => (congrArg Prod.fst (Option.some.inj (ck_Mod.1.symm.trans h.1))).symm
theorem df_Harb : ∀ k, k < 12 → defaultValue (t_Harb k) = if rk 1 k = true then .null else .int 0 := by decide +kernel
theorem df_Hist : ∀ k, k < 3 → defaultValue (t_Hist k) = if rk 2 k = true then .null else .int 0 := by decide +kernel
theorem df_Imag : ∀ k, k < 3 → defaultValue (t_Imag k) = if rk 3 k = true then .null else .int 0 := by decide +kernel
theorem df_Sear : ∀ k, k < 7 → defaultValue (t_Sear k) = if rk 4 k = true then .null else .int 0 := by decide +kernel
theorem df_Book : ∀ k, k < 3 → defaultValue (t_Book k) = if rk 0 k = true then .null else .int 0 := by decide +kernel
theorem df_Sw : ∀ k, k < 6 → defaultValue (t_Sw k) = if rk 5 k = true then .null else .int 0 := by decide +kernel
theorem df_Mod : ∀ k, k < 12 → defaultValue (t_Mod k) = if rk 6 k = true then .null else .int 0 := by decide +kernel
