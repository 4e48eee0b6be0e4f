/-! THE JUDGEMENT Wk, AND ITS ROWS: an instruction a row, over numbers and cells by their numbers -/
theorem nZ_add (a b : Int) : nZ (a + b) = nZ a + nZ b := Int32.ofInt_add a b
theorem nZ_sub (a b : Int) : nZ (a - b) = nZ a - nZ b := Int32.ofInt_sub a b
theorem nZ_mul (a b : Int) : nZ (a * b) = nZ a * nZ b := Int32.ofInt_mul a b
theorem nZ_neg (a : Int) : nZ (-a) = -nZ a := Int32.ofInt_neg a
theorem nZ_toInt {a : Int} (h1 : -2147483648 ≤ a) (h2 : a ≤ 2147483647) : (nZ a).toInt = a := Int32.toInt_ofInt_of_le (by omega) (by omega)
theorem nZ_self (x : Int32) : nZ x.toInt = x := Int32.ofInt_toInt x
theorem nZ_lt {a b : Int} (ha : -2147483648 ≤ a ∧ a ≤ 2147483647) (hb : -2147483648 ≤ b ∧ b ≤ 2147483647) : nZ a < nZ b ↔ a < b := by
  rw [Int32.lt_iff_toInt_lt, nZ_toInt ha.1 ha.2, nZ_toInt hb.1 hb.2]
theorem nZ_le {a b : Int} (ha : -2147483648 ≤ a ∧ a ≤ 2147483647) (hb : -2147483648 ≤ b ∧ b ≤ 2147483647) : nZ a ≤ nZ b ↔ a ≤ b := by
  rw [Int32.le_iff_toInt_le, nZ_toInt ha.1 ha.2, nZ_toInt hb.1 hb.2]
theorem nZ_eq {a b : Int} (ha : -2147483648 ≤ a ∧ a ≤ 2147483647) (hb : -2147483648 ≤ b ∧ b ≤ 2147483647) : nZ a = nZ b ↔ a = b := by
  rw [← Int32.toInt_inj, nZ_toInt ha.1 ha.2, nZ_toInt hb.1 hb.2]
theorem nZ_0 : nZ 0 = 0 := by decide +kernel
theorem nZ_cl {a : Int} (h1 : 0 ≤ a) (h2 : a ≤ 2147483647) : (nZ a).toNatClampNeg = a.toNat := Int32.toNatClampNeg_ofInt_of_le (by omega) (by omega)
theorem nZ_in {a : Int} {n : Nat} (h1 : 0 ≤ a) (h2 : a < n) (hn : n < 2147483648) : vp_in (nZ a) n := by
  rw [vp_in_iff, nZ_toInt (by omega) (by omega)]
  exact ⟨h1, h2⟩
/-- what holds all the while, at a frame's start -/
def GOK (g : GB) (xs : RO) (s : State) : Prop :=
  g.1 ≤ s.heap.size ∧ va_K g.2.2.1 cls0 (tysOf g) s
  ∧ va_Z "SwungShips" "WIND_X" "[I" (.ref (g.2.1 1)) (fun q => g.1 ≤ q) s s.heap ∧ va_T .int (g.2.1 1) 8 (fun j => .int (nZ (windX j))) (fun q => g.1 ≤ q) s s.heap
  ∧ va_Z "SwungShips" "WIND_Y" "[I" (.ref (g.2.1 2)) (fun q => g.1 ≤ q) s s.heap ∧ va_T .int (g.2.1 2) 8 (fun j => .int (nZ (windY j))) (fun q => g.1 ≤ q) s s.heap
  ∧ va_T .int (g.2.1 0) xs.1 (fun j => .int (nZ (xs.2 j))) (fun q => g.1 ≤ q) s s.heap
  ∧ (∀ w ∈ nestW, va_Nw w s) ∧ va_AO "SwungShips$Harbour" s ∧ va_AO "SwungShips$Image" s ∧ xs.1 < 2147483648
theorem nest_warm {s U : State} (hW : s.WarmedH U.vm) : ∀ w ∈ nestW, va_Nw w s → va_Nw w U := by
  intro w hw h
  simp only [nestW, List.mem_cons, List.not_mem_nil, or_false] at hw
  rcases hw with rfl | rfl | rfl | rfl | rfl | rfl | rfl | rfl | rfl | rfl | rfl | rfl
  all_goals first | exact va_Nw.warmF hW h | exact va_Nw.warmM hW h
theorem GOK.moved {g : GB} {xs : RO} {s U : State} {H : Heap} {locs : List Loc} (h : GOK g xs s) (hS : va_S (fun q => g.1 ≤ q) s.heap H locs) (hU : U.heap = H) (hW : s.WarmedH U.vm) : GOK g xs U := by
  obtain ⟨h1, h2, h3, h4, h5, h6, h7, h8, h9, h10, h11⟩ := h
  subst hU
  have hk : ∀ a : Nat, a < s.heap.size → ¬ g.1 ≤ a → U.heap[a]? = s.heap[a]? := hS.2.1
  exact ⟨Nat.le_trans h1 hS.1, h2.moved hW.alike, (h3.moved hW.alike).kept hk, (h4.moved hW.alike).kept hk, (h5.moved hW.alike).kept hk, (h6.moved hW.alike).kept hk, (h7.moved hW.alike).kept hk, fun w hw => nest_warm hW w hw (h8 w hw), h9.moved hW.alike, h10.moved hW.alike, h11⟩
/-- the same heap and tables -/
theorem GOK.same {g : GB} {xs : RO} {s U : State} (h : GOK g xs s) (hU : U.heap = s.heap) (hv : s.vm = U.vm) : GOK g xs U := by
  obtain ⟨h1, h2, h3, h4, h5, h6, h7, h8, h9, h10, h11⟩ := h
  have ha : s.vm.Alike U.vm := by rw [hv]; exact Vm.Alike.refl U.vm
  rw [← hU] at h1 h3 h4 h5 h6 h7
  exact ⟨h1, h2.moved ha, h3.moved ha, h4.moved ha, h5.moved ha, h6.moved ha, h7.moved ha, fun w hw => (h8 w hw).same (nestW_tab w hw) hv, h9.moved ha, h10.moved ha, h11⟩
/-- a frame of ours: the machine, its code, the tables' words, the room for d calls one in another -/
def FOK (g : GB) (xs : RO) (cx : CX) (d : Nat) (p : Program) (R : Room) (s : State) (m : MethodId) (args : Array Value) (meth : Method) (c : Code) : Prop :=
  p.tables.exec = Jvm.exec ∧ c.code = cxC cx ∧ c.maxLocals = cxN cx ∧ s.vm.findClass (cxO cx) = some m.cls ∧ (∀ w ∈ gtbl, w.before args s = true) ∧ (cxI cx = true → meth.name = "<init>") ∧ d ≤ R.frames ∧ 64 * d ≤ R.locals ∧ GOK g xs s
/-- the heap holds the memory -/
def Rep (g : GB) (X : LY) (I : IM) (L : LM) (s : State) (H : Heap) (locs : List Loc) : Prop :=
  va_P g.2.2.1 cls0 (wsOf g X I L) H ∧ X.1 < 1000000 ∧ va_S (fun q => g.1 ≤ q) s.heap H locs
theorem wsOf_at {g : GB} {X : LY} {I : IM} {L : LM} {id : Nat} (h : id < X.1) : (wsOf g X I L)[id]? = some (ad g id, ent g (X.2 id) I L id) := by
  simp [wsOf, h]
theorem wsOf_get {g : GB} {X : LY} {I : IM} {L : LM} {k : Nat} {q : Nat × va_E} (h : (wsOf g X I L)[k]? = some q) : k < X.1 ∧ q = (ad g k, ent g (X.2 k) I L k) := by
  have hk : k < X.1 := by
    have := (List.getElem?_eq_some_iff.mp h).1
    simpa [wsOf] using this
  rw [wsOf_at hk] at h
  exact ⟨hk, (Option.some.inj h).symm⟩
theorem wsOf_D {g : GB} {X : LY} {I : IM} {L : LM} (h : X.1 < 1000000) : va_D (fun q => g.1 ≤ q) (wsOf g X I L) := by
  refine ⟨fun i j p q hi hj e => ?_, fun k q hk => ?_⟩
  · obtain ⟨h1, rfl⟩ := wsOf_get hi
    obtain ⟨h2, rfl⟩ := wsOf_get hj
    simp only [ad] at e
    rw [if_pos (by omega), if_pos (by omega)] at e
    omega
  · obtain ⟨h1, rfl⟩ := wsOf_get hk
    simp only [ad]
    rw [if_pos (by omega)]
    omega
/-- the locals, by their places -/
def lvc (g : GB) : Nat → List (Option AV) → List (Nat × Value)
  | _, [] => []
  | k, none :: r => lvc g (k + 1) r
  | k, some v :: r => (k, cv g v) :: lvc g (k + 1) r
theorem lvc_mem {g : GB} : ∀ {lv : List (Option AV)} {b : Nat} {q : Nat × Value}, q ∈ lvc g b lv ↔ ∃ (k : Nat) (v : AV), lv[k]? = some (some v) ∧ q = (b + k, cv g v)
  | [], b, q => by simp [lvc]
  | none :: r, b, q => by
    simp only [lvc]
    rw [lvc_mem]
    constructor
    · rintro ⟨k, v, h1, rfl⟩
      exact ⟨k + 1, v, by simpa using h1, by rw [show b + 1 + k = b + (k + 1) by omega]⟩
    · rintro ⟨k, v, h1, rfl⟩
      cases k with
      | zero => simp at h1
      | succ k => exact ⟨k, v, by simpa using h1, by rw [show b + 1 + k = b + (k + 1) by omega]⟩
  | some w :: r, b, q => by
    simp only [lvc, List.mem_cons]
    rw [lvc_mem]
    constructor
    · rintro (rfl | ⟨k, v, h1, rfl⟩)
      · exact ⟨0, w, by simp, by simp⟩
      · exact ⟨k + 1, v, by simpa using h1, by rw [show b + 1 + k = b + (k + 1) by omega]⟩
    · rintro ⟨k, v, h1, rfl⟩
      cases k with
      | zero => left; simp at h1; rw [h1]; rfl
      | succ k => right; exact ⟨k, v, by simpa using h1, by rw [show b + 1 + k = b + (k + 1) by omega]⟩
/-- what a return at pc answers -/
def retI (cx : CX) (v : Option AV) (pc : Nat) : Prop := match v with
  | none => decode (cxC cx) pc = .ok (.return_, 1) ∧ cxR cx = none
  | some (.inl z) => decode (cxC cx) pc = .ok (.ireturn, 1) ∧ ∃ ty, cxR cx = some ty ∧ narrow ty (.int (nZ z)) = .int (nZ z)
  | some (.inr (.inl _)) => decode (cxC cx) pc = .ok (.lreturn, 1) ∧ cxR cx = some .long
  | some (.inr (.inr _)) => False
/-- THE JUDGEMENT: from here, in a frame of cx with room for d calls, at most bc cells of bs slots are made, and the method comes to a return with post -/
def Wk (xs : RO) (cx : CX) (d bc bs pc : Nat) (lv : List (Option AV)) (st : List AV) (X : LY) (I : IM) (L : LM) (post : Option AV → LY → IM → LM → Prop) : Prop :=
  ∀ (l : Launch) (g : GB) (p : Program) (e : Env) (R : Room) (s : State) (m : MethodId) (args : Array Value) (below : List Frame) (meth : Method) (c : Code) (Q : State → Prop) (H : Heap) (locs : List Loc) (cells slots : Nat) (ls : Array Slot),
    FOK g xs cx d p R s m args meth c → cells + bc ≤ R.cells → slots + bs ≤ R.slots → Rep g X I L s H locs → s.heap.size + cells = g.1 + X.1 → lv_has ls (cxN cx) (lvc g 0 lv) →
    (∀ (v : Option AV) (X' : LY) (I' : IM) (L' : LM) (H' : Heap) (locs' : List Loc) (cells' slots' : Nat) (ls' : Array Slot) (pc' : Nat), post v X' I' L' → cells' ≤ cells + bc → slots' ≤ slots + bs → Rep g X' I' L' s H' locs' → s.heap.size + cells' = g.1 + X'.1 → retI cx v pc' → W p l e R s m args below meth c H' locs' cells' slots' Q (F0 m pc' ls' (v.toList.map (cv g)))) →
    W p l e R s m args below meth c H locs cells slots Q (F0 m pc ls (st.map (cv g)))
section WKR
variable {xs : RO} {cx : CX} {d bc bs pc q : Nat} {lv lv' : List (Option AV)} {st st' : List AV} {X : LY} {I : IM} {L : LM} {post : Option AV → LY → IM → LM → Prop}
/-- a step that leaves the memory -/
theorem Wk.go (h : ∀ (l : Launch) (g : GB) (p : Program) (e : Env) (R : Room) (s : State) (m : MethodId) (args : Array Value) (below : List Frame) (meth : Method) (c : Code) (Q : State → Prop) (H : Heap) (locs : List Loc) (cells slots : Nat) (ls : Array Slot),
    FOK g xs cx d p R s m args meth c → cells ≤ R.cells → slots ≤ R.slots → Rep g X I L s H locs → lv_has ls (cxN cx) (lvc g 0 lv) →
    (∀ ls' : Array Slot, lv_has ls' (cxN cx) (lvc g 0 lv') → W p l e R s m args below meth c H locs cells slots Q (F0 m q ls' (st'.map (cv g)))) → W p l e R s m args below meth c H locs cells slots Q (F0 m pc ls (st.map (cv g))))
    (k : Wk xs cx d bc bs q lv' st' X I L post) : Wk xs cx d bc bs pc lv st X I L post := by
  intro l g p e R s m args below meth c Q H locs cells slots ls hF hc hs hR hE hl hex
  exact h l g p e R s m args below meth c Q H locs cells slots ls hF (by omega) (by omega) hR hl (fun ls' hl' => k l g p e R s m args below meth c Q H locs cells slots ls' hF hc hs hR hE hl' hex)
/-- the same, with the same locals -/
theorem Wk.go1 (h : ∀ (l : Launch) (g : GB) (p : Program) (e : Env) (R : Room) (s : State) (m : MethodId) (args : Array Value) (below : List Frame) (meth : Method) (c : Code) (Q : State → Prop) (H : Heap) (locs : List Loc) (cells slots : Nat) (ls : Array Slot),
    FOK g xs cx d p R s m args meth c → cells ≤ R.cells → slots ≤ R.slots → Rep g X I L s H locs → lv_has ls (cxN cx) (lvc g 0 lv) →
    W p l e R s m args below meth c H locs cells slots Q (F0 m q ls (st'.map (cv g))) → W p l e R s m args below meth c H locs cells slots Q (F0 m pc ls (st.map (cv g))))
    (k : Wk xs cx d bc bs q lv st' X I L post) : Wk xs cx d bc bs pc lv st X I L post :=
  Wk.go (fun l g p e R s m args below meth c Q H locs cells slots ls hF hc hs hR hl k => h l g p e R s m args below meth c Q H locs cells slots ls hF hc hs hR hl (k ls hl)) k
theorem Wk.iconst {n : Int} (hd : decode (cxC cx) pc = .ok (.iconst n, 1)) (hq : pc + 1 = q) (k : Wk xs cx d bc bs q lv (vi n :: st) X I L post) : Wk xs cx d bc bs pc lv st X I L post := by
  subst hq
  exact Wk.go1 (fun _ g _ _ _ _ _ _ _ _ _ _ _ _ _ _ _ hF _ _ _ _ k => lv_iconst hF.1 hF.2.1 hd rfl k) k
theorem Wk.bipush {n : Int} (hd : decode (cxC cx) pc = .ok (.bipush n, 2)) (hn : (Int8.ofInt n).toInt32 = nZ n) (hq : pc + 2 = q) (k : Wk xs cx d bc bs q lv (vi n :: st) X I L post) : Wk xs cx d bc bs pc lv st X I L post := by
  subst hq
  exact Wk.go1 (fun _ g _ _ _ _ _ _ _ _ _ _ _ _ _ _ _ hF _ _ _ _ k => lv_bipush hF.1 hF.2.1 hd hn k) k
theorem Wk.sipush {n : Int} (hd : decode (cxC cx) pc = .ok (.sipush n, 3)) (hn : (Int16.ofInt n).toInt32 = nZ n) (hq : pc + 3 = q) (k : Wk xs cx d bc bs q lv (vi n :: st) X I L post) : Wk xs cx d bc bs pc lv st X I L post := by
  subst hq
  exact Wk.go1 (fun _ g _ _ _ _ _ _ _ _ _ _ _ _ _ _ _ hF _ _ _ _ k => lv_sipush hF.1 hF.2.1 hd hn k) k
theorem Wk.lconst {n : Fin 2} {v : Int64} (hd : decode (cxC cx) pc = .ok (.lconst n, 1)) (hv : Int64.ofNat (n : Nat) = v) (hq : pc + 1 = q) (k : Wk xs cx d bc bs q lv (vl v :: st) X I L post) : Wk xs cx d bc bs pc lv st X I L post := by
  subst hq
  exact Wk.go1 (fun _ g _ _ _ _ _ _ _ _ _ _ _ _ _ _ _ hF _ _ _ _ k => lv_lconst hF.1 hF.2.1 hd hv k) k
theorem Wk.ldc {idx : Nat} {v : Int32} {z : Int} (hw : Cond.constant (cxO cx) idx v ∈ gtbl) (hv : nZ z = v) (hd : decode (cxC cx) pc = .ok (.ldc idx, 2)) (hq : pc + 2 = q) (k : Wk xs cx d bc bs q lv (vi z :: st) X I L post) : Wk xs cx d bc bs pc lv st X I L post := by
  subst hq; subst hv
  exact Wk.go1 (fun _ g _ _ _ _ _ _ _ _ _ _ _ _ _ _ _ hF _ _ _ _ k => lv_ldc hF.1 hF.2.1 hF.2.2.2.1 (hF.2.2.2.2.1 _ hw) hd k) k
theorem Wk.ldcw {idx : Nat} {v : Int32} {z : Int} (hw : Cond.constant (cxO cx) idx v ∈ gtbl) (hv : nZ z = v) (hd : decode (cxC cx) pc = .ok (.ldc_w idx, 3)) (hq : pc + 3 = q) (k : Wk xs cx d bc bs q lv (vi z :: st) X I L post) : Wk xs cx d bc bs pc lv st X I L post := by
  subst hq; subst hv
  exact Wk.go1 (fun _ g _ _ _ _ _ _ _ _ _ _ _ _ _ _ _ hF _ _ _ _ k => lv_ldcw hF.1 hF.2.1 hF.2.2.2.1 (hF.2.2.2.2.1 _ hw) hd k) k
theorem Wk.ldc2 {idx : Nat} {v : Int64} (hw : Cond.constantLong (cxO cx) idx v ∈ gtbl) (hd : decode (cxC cx) pc = .ok (.ldc2_w idx, 3)) (hq : pc + 3 = q) (k : Wk xs cx d bc bs q lv (vl v :: st) X I L post) : Wk xs cx d bc bs pc lv st X I L post := by
  subst hq
  exact Wk.go1 (fun _ g _ _ _ _ _ _ _ _ _ _ _ _ _ _ _ hF _ _ _ _ k => lv_ldc2 hF.1 hF.2.1 hF.2.2.2.1 (hF.2.2.2.2.1 _ hw) hd k) k
end WKR
