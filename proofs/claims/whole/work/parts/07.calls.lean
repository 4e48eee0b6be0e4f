/-! Wk's rows for returns, calls, new cells, switches -/
theorem Wsize {p : Program} {l : Launch} {e : Env} {R : Room} {s : State} {m : MethodId} {args : Array Value} {below : List Frame} {meth : Method} {c : Code} {H : Heap} {locs : List Loc} {cells slots : Nat} {Q : State → Prop} {f : JFrame} (k : H.size ≤ s.heap.size + cells → W p l e R s m args below meth c H locs cells slots Q f) : W p l e R s m args below meth c H locs cells slots Q f := fun T hT X => k (hT ▸ X.heapSize) T hT X
theorem Rep.le {g : GB} {xs : RO} {X : LY} {I : IM} {L : LM} {s : State} {H : Heap} {locs : List Loc} (hG : GOK g xs s) (h : Rep g X I L s H locs) : g.1 + X.1 ≤ H.size := by
  by_cases h0 : X.1 = 0
  · have := hG.1
    have := h.2.2.1
    omega
  · have h1 := (h.1 (X.1 - 1) _ (wsOf_at (by omega))).lt
    have h2 := h.2.1
    simp only [ad] at h1
    rw [if_pos (by omega)] at h1
    omega
def lentA : List AV → List (Option AV)
  | [] => []
  | .inr (.inl x) :: r => some (.inr (.inl x)) :: none :: lentA r
  | v :: r => some v :: lentA r
def lent (n : Nat) (As : List AV) : List (Option AV) := lentA As ++ List.replicate (n - (lentA As).length) none
theorem lvc_none {g : GB} : ∀ (k b : Nat), lvc g b (List.replicate k none) = []
  | 0, _ => rfl
  | k + 1, b => by rw [List.replicate_succ]; exact lvc_none k (b + 1)
theorem lvc_ent {g : GB} (k : Nat) : ∀ (As : List AV) (b : Nat), lvc g b (lentA As ++ List.replicate k none) = lv_args b (As.map (cv g))
  | [], b => lvc_none k b
  | .inl z :: r, b => by
    have h := lvc_ent (g := g) k r (b + 1)
    simp only [lentA, List.cons_append, lvc, List.map, lv_args, h]
    rfl
  | .inr (.inl x) :: r, b => by
    have h := lvc_ent (g := g) k r (b + 2)
    simp only [lentA, List.cons_append, lvc, List.map, lv_args, h]
    rfl
  | .inr (.inr none) :: r, b => by
    have h := lvc_ent (g := g) k r (b + 1)
    simp only [lentA, List.cons_append, lvc, List.map, lv_args, h]
    rfl
  | .inr (.inr (some i)) :: r, b => by
    have h := lvc_ent (g := g) k r (b + 1)
    simp only [lentA, List.cons_append, lvc, List.map, lv_args, h]
    rfl
theorem lent_len {g : GB} : ∀ (As : List AV), (lg_sl (As.map (cv g))).length = (lentA As).length
  | [] => rfl
  | .inl z :: r => by
    have h := lent_len (g := g) r
    simp only [lg_sl, List.map, List.flatMap_cons, lentA, List.length_append, List.length_cons] at h ⊢
    rw [h]
    simp [cv, Value.category]
    omega
  | .inr (.inl x) :: r => by
    have h := lent_len (g := g) r
    simp only [lg_sl, List.map, List.flatMap_cons, lentA, List.length_append, List.length_cons] at h ⊢
    rw [h]
    simp [cv, Value.category]
    omega
  | .inr (.inr none) :: r => by
    have h := lent_len (g := g) r
    simp only [lg_sl, List.map, List.flatMap_cons, lentA, List.length_append, List.length_cons] at h ⊢
    rw [h]
    simp [cv, va_rf, Value.category]
    omega
  | .inr (.inr (some i)) :: r => by
    have h := lent_len (g := g) r
    simp only [lg_sl, List.map, List.flatMap_cons, lentA, List.length_append, List.length_cons] at h ⊢
    rw [h]
    simp [cv, va_rf, Value.category]
    omega
/-- a contract's start and end, in the abstract machine's words -/
def PcW (g : GB) (xs : RO) (As : List AV) (X : LY) (I : IM) (L : LM) : Array Value → State → Prop := va_Pc (As.map (cv g)) (fun U => GOK g xs U ∧ va_P g.2.2.1 cls0 (wsOf g X I L) U.heap ∧ U.heap.size = g.1 + X.1 ∧ X.1 < 1000000)
def QcW (g : GB) (post : Option AV → LY → IM → LM → Prop) : Array Value → State → Outcome → State → Prop := fun _ st o t => ∃ (v : Option AV) (X' : LY) (I' : IM) (L' : LM), o = .returned (v.map (cv g)) ∧ post v X' I' L' ∧ va_P g.2.2.1 cls0 (wsOf g X' I' L') t.heap ∧ X'.1 < 1000000 ∧ va_F (fun q => g.1 ≤ q) st t
theorem PcW_blind {g : GB} {xs : RO} {As : List AV} {X : LY} {I : IM} {L : LM} : FrameBlind (PcW g xs As X I L) := by
  intro a U f mk h
  obtain ⟨h1, h2, h3⟩ := h
  exact ⟨h1, GOK.same (U := U.calling f mk a) h2 rfl rfl, h3⟩
abbrev wsM (y : MethodName) (x : CX) : List Cond := Cond.code y (cxC x) (cxN x) (cxR x) :: gtbl
/-- a contract out of a walk of the method's body, whatever her class, if no row of the natives is hers -/
theorem Met.ofWF {l : Launch} {y : MethodName} {ws ws' : List Cond} {rm : Room} {Pc : Array Value → State → Prop} {Qc : Array Value → State → Outcome → State → Prop} {mc ms : Nat} {free : Addr → Prop} {cc : ByteArray} {maxL : Nat} {ret : Option FieldType}
    (hy : plainFor y = true) (hw : ws = Cond.code y cc maxL ret :: ws')
    (body : ∀ p e s m args below meth c s₁, BodyLoose p l y (headSpec ws rm) cc maxL ret e s m args below meth c s₁ → c.maxLocals = maxL → Pc args s →
      W p l e (headSpec ws rm).room s m args below meth c s.heap [] 0 0 (MQ below Qc args s mc ms free) (entryFrame m args maxL)) : Met l y ws rm Pc Qc mc ms free := by
  refine MetFree.of_bodySF (code := cc) (maxLocals := maxL) (ret := ret) hy (fun args s m h hn => ?_) (fun p e s m args below meth c s₁ B hml hP _ => ?_)
  · obtain ⟨meth, c, h1, h2, h3, h4, h5, h6, -, -⟩ := Cond.code_spec hn (atoms_spec (ws := ws) h _ (by rw [hw]; exact List.mem_cons_self))
    exact ⟨meth, c, h1, h2, h3, h4, h5, h6⟩
  · obtain ⟨t, a1, o, b1, b2, b3⟩ := body p e s m args below meth c s₁ B hml hP s₁ (by rw [B.state]; rfl) (Stand.of_body B)
    exact ⟨t, o, a1, b1, b2, ⟨b3.1, b3.2⟩⟩
/-- A CONTRACT OUT OF A WALK -/
theorem met_of {y : MethodName} {x : CX} {n : Nat} (hM : MOK y x n) {xs : RO} {d mc ms : Nat} {As : List AV} {X : LY} {I : IM} {L : LM} {post : Option AV → LY → IM → LM → Prop} (hn : (lentA As).length ≤ cxN x) (hw : Wk xs x d mc ms 0 (lent (cxN x) As) [] X I L post) (l : Launch) (g : GB) :
    Met l y (wsM y x) { frames := d, cells := mc, slots := ms, locals := 64 * d } (PcW g xs As X I L) (QcW g post) mc ms (fun q => g.1 ≤ q) := by
  obtain ⟨hcode, hplain, hown, hpar, hini, hinit, hsm⟩ := hM
  refine Met.ofWF (cc := cxC x) (maxL := cxN x) (ret := cxR x) hplain rfl ?_
  intro p e s m args below meth c s₁ B hml hv
  obtain ⟨rfl, hG, hP, hsz, hlt⟩ := hv
  have hts := atoms_spec (ws := wsM y x) B.pre
  have hcls : s.vm.findClass (cxO x) = some m.cls := by rw [← hown]; exact findClass_of_methodNamed B.named
  have hl := lv_entry (As.map (cv g)) (n := cxN x) (by rw [lent_len]; exact hn)
  rw [lg_entry_eq]
  have hl2 : lv_has ((lg_sl (As.map (cv g)) ++ List.replicate (cxN x - (lg_sl (As.map (cv g))).length) Slot.unset).toArray) (cxN x) (lvc g 0 (lent (cxN x) As)) := by
    unfold lent
    rw [lvc_ent]
    exact hl
  refine hw l g p e _ s m _ below meth c _ s.heap [] 0 0 _ ⟨B.exec, B.bytes, hml, hcls, fun w h => hts w (List.mem_cons_of_mem _ h), fun hi => by rw [(name_of_methodNamed B.named B.method).1]; exact hinit hi, Nat.le_refl d, Nat.le_refl (64 * d), hG⟩ (by show 0 + mc ≤ mc; omega) (by show 0 + ms ≤ ms; omega) ⟨hP, hlt, va_S.rf⟩ (by omega) hl2 ?_
  intro v X' I' L' H' locs' cells' slots' ls' pc' hp hc hs hR hE hret
  refine W.widen (k := mc) (n := ms) (by omega) (by omega) ?_
  have hlocks := B.notSynchronized
  have hr := B.returns
  rcases v with _ | (z | (w | w))
  · obtain ⟨hd, h0⟩ := hret
    exact W.vret B.exec B.bytes (hr.trans h0) (fun t ht hW => ⟨none, X', I', L', rfl, hp, by rw [ht]; exact hR.1, hR.2.1, hR.2.2.F ht⟩) hR.2.2.2.2 hd
  · obtain ⟨hd, ty, h0, hn0⟩ := hret
    exact W.zret B.exec B.bytes (hr.trans h0) hn0 (fun t ht hW => ⟨some (.inl z), X', I', L', rfl, hp, by rw [ht]; exact hR.1, hR.2.1, hR.2.2.F ht⟩) hR.2.2.2.2 hd
  · obtain ⟨hd, h0⟩ := hret
    exact W.lret B.exec B.bytes (hr.trans h0) (fun t ht hW => ⟨some (.inr (.inl w)), X', I', L', rfl, hp, by rw [ht]; exact hR.1, hR.2.1, hR.2.2.F ht⟩) hR.2.2.2.2 hd
  · exact absurd hret (by simp [retI])
theorem callW {p : Program} {l : Launch} {e : Env} {R : Room} {s : State} {m : MethodId} {args : Array Value} {below : List Frame} {meth : Method} {c : Code} {H : Heap} {locs : List Loc} {cells slots mc ms pc : Nat} {Q : State → Prop} {ls : Array Slot} {st0 : List Value} {rest : List AV} {g : GB} {postc : Option AV → LY → IM → LM → Prop} {a : Array Value}
    (hr : va_Run p l e R s m args below meth c H locs cells slots mc ms (F0 m pc ls st0) (rest.map (cv g)) (QcW g postc a) (fun q => g.1 ≤ q)) (hS : va_S (fun q => g.1 ≤ q) s.heap H locs)
    (kk : ∀ (v : Option AV) (X' : LY) (I' : IM) (L' : LM) (H' : Heap) (locs' : List Loc), postc v X' I' L' → Rep g X' I' L' s H' locs' → W p l e R s m args below meth c H' locs' (cells + mc) (slots + ms) Q (F0 m (pc + 3) ls ((v.toList ++ rest).map (cv g)))) : W p l e R s m args below meth c H locs cells slots Q (F0 m pc ls st0) := by
  intro T hT X
  obtain ⟨v, st₀, t, T', L, h0, X', hL, e1, e2, ⟨v', X1, I1, L1, ho, hp, hP, hlt, hz, hk⟩, st⟩ := hr T hT X
  rw [h0] at hz hk
  have hv : v = v'.map (cv g) := by injection ho
  obtain ⟨t2, a1, b1⟩ := kk v' X1 I1 L1 T'.heap (locs ++ L) hp ⟨by rw [e1]; exact hP, hlt, Nat.le_trans hS.1 (by rw [e1]; exact hz), fun q h1 h2 => by rw [e1, hk q (Nat.lt_of_lt_of_le h1 hS.1) h2]; exact hS.2.1 q h1 h2, fun q hq => by
      rcases List.mem_append.mp hq with h | h
      · exact hS.2.2 q h
      · exact hL q h⟩ T' rfl X'
  refine ⟨t2, st t2 ?_, b1⟩
  rw [hv]
  have e3 : (v'.map (cv g)).toList ++ rest.map (cv g) = (v'.toList ++ rest).map (cv g) := by cases v' <;> rfl
  rw [e3]
  exact a1
/-- the operands of a call, told to whoever asks -/
def splitK : Nat → List AV → List AV → (List AV → List AV → Prop) → Prop
  | 0, acc, st, K => K acc st
  | n + 1, acc, v :: st, K => splitK n (v :: acc) st K
  | _ + 1, _, [], _ => False
theorem splitK_eq : ∀ (n : Nat) (acc st As rest : List AV), splitK n acc st (fun a r => a = As ∧ r = rest) → As.reverse ++ rest = acc.reverse ++ st ∧ As.length = n + acc.length
  | 0, acc, st, As, rest, h => by obtain ⟨rfl, rfl⟩ := h; simp
  | n + 1, acc, v :: st, As, rest, h => by
    obtain ⟨h1, h2⟩ := splitK_eq n (v :: acc) st As rest h
    refine ⟨by rw [h1]; simp, by rw [h2]; simp; omega⟩
  | n + 1, acc, [], As, rest, h => absurd h (by simp [splitK])
theorem split_of {n : Nat} {stk As rest : List AV} (h : ∀ K : List AV → List AV → Prop, K As rest → splitK n [] stk K) : stk = As.reverse ++ rest ∧ As.length = n := by
  obtain ⟨h1, h2⟩ := splitK_eq n [] stk As rest (h _ ⟨rfl, rfl⟩)
  exact ⟨by simpa using h1.symm, by simpa using h2⟩
def wcat : List AV → Nat
  | [] => 0
  | .inr (.inl _) :: r => wcat r + 2
  | _ :: r => wcat r + 1
theorem wcat_eq {g : GB} : ∀ (st : List AV), ((st.map (cv g)).map fun v => v.category).sum = wcat st
  | [] => rfl
  | .inl z :: r => by have h := wcat_eq (g := g) r; simp only [List.map, List.sum_cons, wcat, h]; simp [cv, Value.category]; omega
  | .inr (.inl x) :: r => by have h := wcat_eq (g := g) r; simp only [List.map, List.sum_cons, wcat, h]; simp [cv, Value.category]; omega
  | .inr (.inr none) :: r => by have h := wcat_eq (g := g) r; simp only [List.map, List.sum_cons, wcat, h]; simp [cv, va_rf, Value.category]; omega
  | .inr (.inr (some i)) :: r => by have h := wcat_eq (g := g) r; simp only [List.map, List.sum_cons, wcat, h]; simp [cv, va_rf, Value.category]; omega
theorem goodM {y : MethodName} {x : CX} {n : Nat} (hM : MOK y x n) : GoodIn gtbl (wsM y x) := fun w hw => (List.mem_cons.mp hw).elim (fun e => e ▸ gtbl_good _ hM.1) (fun h => gtbl_good w h)
section WKC
variable {xs : RO} {cx : CX} {d bc bs pc q : Nat} {lv lv' : List (Option AV)} {st st' : List AV} {X : LY} {I : IM} {L : LM} {post : Option AV → LY → IM → LM → Prop}
variable {y : MethodName} {cx' : CX} {n idx mc ms : Nat} {stk As : List AV} {lv0 : List (Option AV)} {postc : Option AV → LY → IM → LM → Prop}
theorem callB_W {R : Room} {s : State} {args : Array Value} {own : String} (hts : ∀ w ∈ gtbl, w.before args s = true) (hM : MOK y cx' n) (hl : Cond.methodLink own idx y ∈ gtbl) (h1 : d + 1 ≤ R.frames) (h2 : 64 * (d + 1) ≤ R.locals) : CallB R s args own idx y (cxC cx') (cxN cx') (cxR cx') (wsM y cx') { frames := d, cells := mc, slots := ms, locals := 64 * d } mc ms n := by
  have := hM.2.2.2.2.2.2
  exact callB_of n hts (goodM hM) rfl rfl rfl (hts _ hM.2.2.2.2.1) (hts _ hl) hM.2.2.2.1 ⟨h1, by show 8 + (cxN cx' + 11) + 64 * d ≤ R.locals; omega⟩
/-- a static method of ours is called -/
theorem Wk.callS (hL : LkS (cxO cx) idx y) (hM : MOK y cx' n) (hd : decode (cxC cx) pc = .ok (.invokestatic idx, 3)) (hs : ∀ K : List AV → List AV → Prop, K As st → splitK n [] stk K) (hwc : wcat st ≤ 8) (hn : (lentA As).length ≤ cxN cx') (hl : lent (cxN cx') As = lv0) (hc : Wk xs cx' d mc ms 0 lv0 [] X I L postc) (hX : ∀ v X' I' L', postc v X' I' L' → X'.1 = X.1 + mc) (hq : pc + 3 = q)
    (kk : ∀ v X' I' L', postc v X' I' L' → Wk xs cx (d + 1) bc bs q lv (v.toList ++ st) X' I' L' post) : Wk xs cx (d + 1) (mc + bc) (ms + bs) pc lv stk X I L post := by
  subst hq; subst hl
  obtain ⟨rfl, hlen⟩ := split_of hs
  intro l g p e R s m args below meth c Q H locs cells slots ls hF hcl hsl hR hE hl hex
  refine Wsize (fun hsz => ?_)
  have hge := hR.le hF.2.2.2.2.2.2.2.2
  refine callW (rest := st) (va_runS (As := As.map (cv g)) (rest := st.map (cv g)) ⟨hF.1, hF.2.1, hF.2.2.1, hF.2.2.2.1, hF.2.2.2.2.1⟩ (met_of hM hn hc l g) ⟨callB_W hF.2.2.2.2.1 hM hL.1 hF.2.2.2.2.2.2.1 hF.2.2.2.2.2.2.2.1, hF.2.2.2.2.1 _ hL.2⟩ ⟨PcW_blind, fun U hU hW => ⟨rfl, GOK.moved hF.2.2.2.2.2.2.2.2 hR.2.2 hU hW, by rw [hU]; exact hR.1, by rw [hU]; omega, hR.2.1⟩⟩ rfl (by rw [List.length_map]; exact hlen) hl.1 (by rw [List.map_append, List.map_reverse]) (lv_room (by rw [wcat_eq]; exact hwc)) hd ⟨by omega, by omega⟩) hR.2.2 (fun v X' I' L' H' locs' hp hR' => ?_)
  have hX' := hX v X' I' L' hp
  exact kk v X' I' L' hp l g p e R s m args below meth c Q H' locs' (cells + mc) (slots + ms) ls hF (by omega) (by omega) hR' (by omega) hl (fun v X1 I1 L1 H1 locs1 cells1 slots1 ls1 pc1 hp1 hc1 hs1 => hex v X1 I1 L1 H1 locs1 cells1 slots1 ls1 pc1 hp1 (by omega) (by omega))
/-- a static method of a nest mate -/
theorem Wk.callN {host : String} (hL : LkN (cxO cx) idx y host) (hM : MOK y cx' n) (hd : decode (cxC cx) pc = .ok (.invokestatic idx, 3)) (hs : ∀ K : List AV → List AV → Prop, K As st → splitK n [] stk K) (hwc : wcat st ≤ 8) (hn : (lentA As).length ≤ cxN cx') (hl : lent (cxN cx') As = lv0) (hc : Wk xs cx' d mc ms 0 lv0 [] X I L postc) (hX : ∀ v X' I' L', postc v X' I' L' → X'.1 = X.1 + mc) (hq : pc + 3 = q)
    (kk : ∀ v X' I' L', postc v X' I' L' → Wk xs cx (d + 1) bc bs q lv (v.toList ++ st) X' I' L' post) : Wk xs cx (d + 1) (mc + bc) (ms + bs) pc lv stk X I L post := by
  subst hq; subst hl
  obtain ⟨rfl, hlen⟩ := split_of hs
  intro l g p e R s m args below meth c Q H locs cells slots ls hF hcl hsl hR hE hl hex
  refine Wsize (fun hsz => ?_)
  have hge := hR.le hF.2.2.2.2.2.2.2.2
  have h40 := hM.2.2.2.2.2.2
  have hfr := hF.2.2.2.2.2.2.1
  have hlo := hF.2.2.2.2.2.2.2.1
  refine callW (rest := st) (va_runSN (As := As.map (cv g)) (rest := st.map (cv g)) ⟨hF.1, hF.2.1, hF.2.2.1, hF.2.2.2.1, hF.2.2.2.2.1⟩ (met_of hM hn hc l g) ⟨va_cnB n hF.2.2.2.2.1 (goodM hM) rfl rfl rfl (hF.2.2.2.2.2.2.2.2.2.2.2.2.2.2.2.1 _ hL.1) (hF.2.2.2.2.1 _ hM.2.2.2.2.1) hM.2.2.2.1 ⟨hfr, by show 8 + (cxN cx' + 11) + 64 * d ≤ R.locals; omega⟩, hF.2.2.2.2.1 _ hL.2, trivial⟩ ⟨PcW_blind, fun U hU hW => ⟨rfl, GOK.moved hF.2.2.2.2.2.2.2.2 hR.2.2 hU hW, by rw [hU]; exact hR.1, by rw [hU]; omega, hR.2.1⟩⟩ rfl (by rw [List.length_map]; exact hlen) hl.1 (by rw [List.map_append, List.map_reverse]) (lv_room (by rw [wcat_eq]; exact hwc)) hd ⟨by omega, by omega⟩) hR.2.2 (fun v X' I' L' H' locs' hp hR' => ?_)
  have hX' := hX v X' I' L' hp
  exact kk v X' I' L' hp l g p e R s m args below meth c Q H' locs' (cells + mc) (slots + ms) ls hF (by omega) (by omega) hR' (by omega) hl (fun v X1 I1 L1 H1 locs1 cells1 slots1 ls1 pc1 hp1 hc1 hs1 => hex v X1 I1 L1 H1 locs1 cells1 slots1 ls1 pc1 hp1 (by omega) (by omega))
/-- a method of an object of ours -/
theorem Wk.callV {id ci nf : Nat} (hL : LkV (cxO cx) idx y) (hM : MOK y cx' n) (hd : decode (cxC cx) pc = .ok (.invokevirtual idx, 3)) (hs : ∀ K : List AV → List AV → Prop, K (vr id :: As) st → splitK (n + 1) [] stk K) (hO : isO X id ci nf) (hcl : cls0[ci]?.map (fun r => r.1) = some y.cls) (hwc : wcat st ≤ 8) (hn : (lentA (vr id :: As)).length ≤ cxN cx') (hl : lent (cxN cx') (vr id :: As) = lv0) (hc : Wk xs cx' d mc ms 0 lv0 [] X I L postc) (hX : ∀ v X' I' L', postc v X' I' L' → X'.1 = X.1 + mc) (hq : pc + 3 = q)
    (kk : ∀ v X' I' L', postc v X' I' L' → Wk xs cx (d + 1) bc bs q lv (v.toList ++ st) X' I' L' post) : Wk xs cx (d + 1) (mc + bc) (ms + bs) pc lv stk X I L post := by
  subst hq; subst hl
  obtain ⟨rfl, hlen⟩ := split_of hs
  intro l g p e R s m args below meth c Q H locs cells slots ls hF hcl2 hsl hR hE hl hex
  refine Wsize (fun hsz => ?_)
  have hge := hR.le hF.2.2.2.2.2.2.2.2
  obtain ⟨r, hr1, hr2⟩ : ∃ r, cls0[ci]? = some r ∧ r.1 = y.cls := by
    cases h : cls0[ci]? with
    | none => rw [h] at hcl; cases hcl
    | some r => rw [h] at hcl; exact ⟨r, rfl, Option.some.inj hcl⟩
  have hrec := va_recv hF.2.2.2.2.2.2.2.2.2.1 hR.1 hr1 (ent_o hO)
  rw [hr2] at hrec
  refine callW (rest := st) (va_runV (C := y.cls) (b := ad g id) (As := As.map (cv g)) (rest := st.map (cv g)) ⟨hF.1, hF.2.1, hF.2.2.1, hF.2.2.2.1, hF.2.2.2.2.1⟩ (met_of hM hn hc l g) ⟨callB_W hF.2.2.2.2.1 hM hL.1 hF.2.2.2.2.2.2.1 hF.2.2.2.2.2.2.2.1, hF.2.2.2.2.1 _ hL.2.1, hF.2.2.2.2.1 _ hL.2.2⟩ ⟨PcW_blind, hrec, fun U hU hW => ⟨rfl, GOK.moved hF.2.2.2.2.2.2.2.2 hR.2.2 hU hW, by rw [hU]; exact hR.1, by rw [hU]; omega, hR.2.1⟩⟩ rfl (by rw [List.length_map]; simpa using hlen) hl.1 (by simp [List.map_reverse, cv, vr, va_rf]) (lv_room (by rw [wcat_eq]; exact hwc)) hd ⟨by omega, by omega⟩) hR.2.2 (fun v X' I' L' H' locs' hp hR' => ?_)
  have hX' := hX v X' I' L' hp
  exact kk v X' I' L' hp l g p e R s m args below meth c Q H' locs' (cells + mc) (slots + ms) ls hF (by omega) (by omega) hR' (by omega) hl (fun v X1 I1 L1 H1 locs1 cells1 slots1 ls1 pc1 hp1 hc1 hs1 => hex v X1 I1 L1 H1 locs1 cells1 slots1 ls1 pc1 hp1 (by omega) (by omega))
/-- a constructor of ours -/
theorem Wk.callI {id : Nat} (hL : LkI (cxO cx) idx y) (hM : MOK y cx' n) (hr0 : cxR cx' = none) (hd : decode (cxC cx) pc = .ok (.invokespecial idx, 3)) (hs : ∀ K : List AV → List AV → Prop, K (vr id :: As) st → splitK (n + 1) [] stk K) (hwc : wcat st ≤ 8) (hn : (lentA (vr id :: As)).length ≤ cxN cx') (hl : lent (cxN cx') (vr id :: As) = lv0) (hc : Wk xs cx' d mc ms 0 lv0 [] X I L postc) (hX : ∀ v X' I' L', postc v X' I' L' → X'.1 = X.1 + mc) (hq : pc + 3 = q)
    (kk : ∀ v X' I' L', postc v X' I' L' → Wk xs cx (d + 1) bc bs q lv (v.toList ++ st) X' I' L' post) : Wk xs cx (d + 1) (mc + bc) (ms + bs) pc lv stk X I L post := by
  subst hq; subst hl
  obtain ⟨rfl, hlen⟩ := split_of hs
  intro l g p e R s m args below meth c Q H locs cells slots ls hF hcl2 hsl hR hE hl hex
  refine Wsize (fun hsz => ?_)
  have hge := hR.le hF.2.2.2.2.2.2.2.2
  have hcb := callB_W (mc := mc) (ms := ms) (d := d) hF.2.2.2.2.1 hM hL.1 hF.2.2.2.2.2.2.1 hF.2.2.2.2.2.2.2.1
  rw [hr0] at hcb
  have hme := met_of hM hn hc l g
  have hws : wsM y cx' = Cond.code y (cxC cx') (cxN cx') none :: gtbl := by rw [wsM, hr0]
  rw [hws] at hcb hme
  refine callW (rest := st) (va_runI (b := ad g id) (As := As.map (cv g)) (rest := st.map (cv g)) ⟨hF.1, hF.2.1, hF.2.2.1, hF.2.2.2.1, hF.2.2.2.2.1⟩ hme ⟨hcb, hL.2.2, hF.2.2.2.2.1 _ hL.2.1⟩ ⟨PcW_blind, fun U hU hW => ⟨rfl, GOK.moved hF.2.2.2.2.2.2.2.2 hR.2.2 hU hW, by rw [hU]; exact hR.1, by rw [hU]; omega, hR.2.1⟩⟩ rfl (by rw [List.length_map]; simpa using hlen) hl.1 (by simp [List.map_reverse, cv, vr, va_rf]) (lv_room (by rw [wcat_eq]; exact hwc)) hd ⟨by omega, by omega⟩) hR.2.2 (fun v X' I' L' H' locs' hp hR' => ?_)
  have hX' := hX v X' I' L' hp
  exact kk v X' I' L' hp l g p e R s m args below meth c Q H' locs' (cells + mc) (slots + ms) ls hF (by omega) (by omega) hR' (by omega) hl (fun v X1 I1 L1 H1 locs1 cells1 slots1 ls1 pc1 hp1 hc1 hs1 => hex v X1 I1 L1 H1 locs1 cells1 slots1 ls1 pc1 hp1 (by omega) (by omega))
/-- returns -/
theorem Wk.iret {z : Int} (hd : decode (cxC cx) pc = .ok (.ireturn, 1)) (hr : cxR cx = some .int) (h : post (some (vi z)) X I L) : Wk xs cx d bc bs pc lv [vi z] X I L post := by
  intro l g p e R s m args below meth c Q H locs cells slots ls hF hcl hsl hR hE hl hex
  exact hex (some (vi z)) X I L H locs cells slots ls pc h (by omega) (by omega) hR hE ⟨hd, .int, hr, vp_nar_int _⟩
theorem Wk.zret {z : Int} (hd : decode (cxC cx) pc = .ok (.ireturn, 1)) (hr : cxR cx = some .boolean) (hz : z = 0 ∨ z = 1) (h : post (some (vi z)) X I L) : Wk xs cx d bc bs pc lv [vi z] X I L post := by
  intro l g p e R s m args below meth c Q H locs cells slots ls hF hcl hsl hR hE hl hex
  exact hex (some (vi z)) X I L H locs cells slots ls pc h (by omega) (by omega) hR hE ⟨hd, .boolean, hr, by rcases hz with rfl | rfl <;> decide +kernel⟩
theorem Wk.lret {z : Int64} (hd : decode (cxC cx) pc = .ok (.lreturn, 1)) (hr : cxR cx = some .long) (h : post (some (vl z)) X I L) : Wk xs cx d bc bs pc lv [vl z] X I L post := by
  intro l g p e R s m args below meth c Q H locs cells slots ls hF hcl hsl hR hE hl hex
  exact hex (some (vl z)) X I L H locs cells slots ls pc h (by omega) (by omega) hR hE ⟨hd, hr⟩
theorem Wk.vret (hd : decode (cxC cx) pc = .ok (.return_, 1)) (hr : cxR cx = none) (h : post none X I L) : Wk xs cx d bc bs pc lv [] X I L post := by
  intro l g p e R s m args below meth c Q H locs cells slots ls hF hcl hsl hR hE hl hex
  exact hex none X I L H locs cells slots ls pc h (by omega) (by omega) hR hE ⟨hd, hr⟩
end WKC
