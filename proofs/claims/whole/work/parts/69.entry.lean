/-! THE ENTRY -/
theorem ac_of {ty : FieldType} {args : Array Value} {s : State} (h : (Cond.arrayClass ty).before args s = true) : ∃ (cA : ClassId) (kA : Class) (comp : ClassId), s.vm.findClass ("[" ++ ty.toString) = some cA ∧ s.vm.classes[cA]? = some kA ∧ kA.kind = .array comp ty := by
  first
  | exact Cond.arrayClass_spec h
  | (obtain ⟨a, b, c, h1, h2, h3⟩ := Cond.arrayClass_spec h; exact ⟨a, b, c, h1, h2, h3⟩)
  | (obtain ⟨a, b, h1, h2, c, h3⟩ := Cond.arrayClass_spec h; exact ⟨a, b, c, h1, h2, h3⟩)
theorem ao_of {C : String} {args : Array Value} {s : State} (h : (Cond.arrayOver (.object C)).before args s = true) : ∃ (cA : ClassId), ArrOfT s cA (.object C) ∧ va_RA s cA (.object C) := by
  obtain ⟨comp, c, k, h1, h2, h3, h4, h5⟩ := Cond.arrayOver_spec h
  exact ⟨c, fun n z => ⟨fun k h => (by cases h), k, h3, comp, h4⟩, k, comp, h3, h4, h1, h5⟩
theorem ac_of2 {ty : FieldType} {args : Array Value} {s : State} (h : (Cond.arrayClass ty).before args s = true) : ∃ (cA : ClassId), ArrOfT s cA ty ∧ s.vm.findClass ("[" ++ ty.toString) = some cA := by
  obtain ⟨c, k, comp, h1, h2, h3⟩ := ac_of h
  exact ⟨c, fun n z => ⟨fun k h => (by cases h), k, h2, comp, h3⟩, h1⟩
/-! THE CLAIM OUT OF ONE WALK OF THE LAW'S BODY. Your part is whole_start (and what it stands on); all else here is the same for every law, but numbers. -/
def R_law : String := "SwungShipsLaw"
def lw_P (b : Addr) (xs : List Int32) (args : Array Value) (s : State) : Prop := args = #[.ref b] ∧ s.IntsAt b xs ∧ xs.length ≤ 2560 ∧ (Jvm.Cond.and given_1 narrow_1).before args s = true
def lw_Q (_ : Array Value) (s : State) (o : Outcome) (t : State) : Prop := o = .returned (some (.int 1)) ∧ Framed s o t [] 600000 7302250
def lw_Z (below : List Frame) (a : Array Value) (s : State) : State → Prop := fun t => ∃ o, t.status = .running ∧ Ended t below o ∧ lw_Q a s o t
/-- the law's own end, with 1 on the stack, nothing written that was there before, its room as the claim has it -/
theorem lw_ret {p : Program} {l : Launch} {e : Env} {s : State} {m : MethodId} {below : List Frame} {meth : Method} {c : Code} {b : Nat} (hx : p.tables.exec = Jvm.exec) (hb : c.code = code) (hr : meth.sig.returnType = ret) (hlocks : meth.locks = false) {pc : Nat} {H : Heap} {ls : Array Slot} (hdg : decode code pc = .ok (.ireturn, 1)) : W p l e room_1 s m #[Value.ref b] below meth c H [] 600000 7302250 (lw_Z below #[Value.ref b] s) (F0 m pc ls [.int 1]) := by
  intro T hT X
  obtain ⟨fs, hret, hrun, hended, hW, hframe⟩ := X.leave (v := some (.int 1)) (hlocks := hlocks) (fun h => by rw [hr] at h; cases h)
  have hmeth' : T.vm.method? m = some meth := X.method'
  refine ⟨T.setFrames fs, ?_, .returned (some (.int 1)), hrun, hended, rfl, ⟨_, rfl⟩, hW, hframe⟩
  jvm_step X.here [X.here.top, hx, hb, hdg, hmeth', hr, ret, narrow_b1]
  (try refine ⟨rfl, ?_⟩); (try refine ⟨rfl, ?_⟩)
  first | (intro acts; rw [hret _ acts rfl rfl rfl]) | rw [hret _ _ rfl rfl rfl]
  exact Steps.refl _
/-- what holds at the law's entry: the machine, the code, the tables' words (any of lw_tbl by 'hts w (by decide +kernel)'), the script of L ints xs at the cell b, what the Statement gives of the start (any of its parts by flat_of_before) -/
def lw_At (p : Program) (s : State) (m : MethodId) (meth : Method) (c : Code) (b L : Nat) (xs : Nat → Int32) : Prop :=
  p.tables.exec = Jvm.exec ∧ c.code = code ∧ meth.sig.returnType = ret ∧ c.maxLocals = 4 ∧ s.vm.findClass R_law = some m.cls ∧ (∀ w ∈ lw_tbl, w.before #[Value.ref b] s = true) ∧ va_X b L xs s s.heap ∧ b < s.heap.size ∧ meth.locks = false ∧ (Jvm.Cond.and given_1 narrow_1).before #[Value.ref b] s = true
theorem whole_start {p : Program} {e : Env} {s : State} {m : MethodId} {below : List Frame} {meth : Method} {c : Code} (l : Launch) (hflags : l.flags = flags0) {b L : Nat} {xs : Nat → Int32} (hL : L ≤ 2560) (C0 : lw_At p s m meth c b L xs) : W p l e room_1 s m #[Value.ref b] below meth c s.heap [] 0 0 (lw_Z below #[Value.ref b] s) (entryFrame m ([Value.ref b] : List Value).toArray 4) := by
  obtain ⟨hx, hb, hr, hml, hown, hts, hX, hbl, hlocks, hgv⟩ := C0
  have hs := flat_of_before _ hgv
  have hA : ∀ a : Nat, a < s.heap.size → ¬ s.heap.size ≤ a := fun a h => by omega
  have htg : ∀ w ∈ gtbl, w.before #[Value.ref b] s = true := fun w h => hts w (List.mem_filter.mp h).1
  obtain ⟨t1, e1, T1⟩ := va_Tof (args := #[Value.ref b]) (s := s) (N := 8) (ty := .int) (tm := .static "SwungShips" "WIND_X" "[I") (f := fun j => .int (nZ (windX j))) (A := fun q => s.heap.size ≤ q) (by decide) (hs _ (by decide +kernel)) (va_eqt (z := 8) (hs _ (by decide +kernel))) (fun j hj => by
    have h8 : j = 0 ∨ j = 1 ∨ j = 2 ∨ j = 3 ∨ j = 4 ∨ j = 5 ∨ j = 6 ∨ j = 7 := by omega
    rcases h8 with rfl | rfl | rfl | rfl | rfl | rfl | rfl | rfl
    · rw [show nZ (windX ((0 : Nat) : Int)) = 0 by decide +kernel]; exact va_eqt (hs _ (by decide +kernel))
    · rw [show nZ (windX ((1 : Nat) : Int)) = 1 by decide +kernel]; exact va_eqt (hs _ (by decide +kernel))
    · rw [show nZ (windX ((2 : Nat) : Int)) = 1 by decide +kernel]; exact va_eqt (hs _ (by decide +kernel))
    · rw [show nZ (windX ((3 : Nat) : Int)) = 1 by decide +kernel]; exact va_eqt (hs _ (by decide +kernel))
    · rw [show nZ (windX ((4 : Nat) : Int)) = 0 by decide +kernel]; exact va_eqt (hs _ (by decide +kernel))
    · rw [show nZ (windX ((5 : Nat) : Int)) = (-1) by decide +kernel]; exact va_eqt (hs _ (by decide +kernel))
    · rw [show nZ (windX ((6 : Nat) : Int)) = (-1) by decide +kernel]; exact va_eqt (hs _ (by decide +kernel))
    · rw [show nZ (windX ((7 : Nat) : Int)) = (-1) by decide +kernel]; exact va_eqt (hs _ (by decide +kernel))) hA
  obtain ⟨t2, e2, T2⟩ := va_Tof (args := #[Value.ref b]) (s := s) (N := 8) (ty := .int) (tm := .static "SwungShips" "WIND_Y" "[I") (f := fun j => .int (nZ (windY j))) (A := fun q => s.heap.size ≤ q) (by decide) (hs _ (by decide +kernel)) (va_eqt (z := 8) (hs _ (by decide +kernel))) (fun j hj => by
    have h8 : j = 0 ∨ j = 1 ∨ j = 2 ∨ j = 3 ∨ j = 4 ∨ j = 5 ∨ j = 6 ∨ j = 7 := by omega
    rcases h8 with rfl | rfl | rfl | rfl | rfl | rfl | rfl | rfl
    · rw [show nZ (windY ((0 : Nat) : Int)) = 1 by decide +kernel]; exact va_eqt (hs _ (by decide +kernel))
    · rw [show nZ (windY ((1 : Nat) : Int)) = 1 by decide +kernel]; exact va_eqt (hs _ (by decide +kernel))
    · rw [show nZ (windY ((2 : Nat) : Int)) = 0 by decide +kernel]; exact va_eqt (hs _ (by decide +kernel))
    · rw [show nZ (windY ((3 : Nat) : Int)) = (-1) by decide +kernel]; exact va_eqt (hs _ (by decide +kernel))
    · rw [show nZ (windY ((4 : Nat) : Int)) = (-1) by decide +kernel]; exact va_eqt (hs _ (by decide +kernel))
    · rw [show nZ (windY ((5 : Nat) : Int)) = (-1) by decide +kernel]; exact va_eqt (hs _ (by decide +kernel))
    · rw [show nZ (windY ((6 : Nat) : Int)) = 0 by decide +kernel]; exact va_eqt (hs _ (by decide +kernel))
    · rw [show nZ (windY ((7 : Nat) : Int)) = 1 by decide +kernel]; exact va_eqt (hs _ (by decide +kernel))) hA
  have Z1 : va_Z "SwungShips" "WIND_X" "[I" (.ref t1) (fun q => s.heap.size ≤ q) s s.heap := va_Zref (hts _ (List.mem_of_getElem? (i := 285) (by decide +kernel))) (hts _ (List.mem_of_getElem? (i := 52) (by decide +kernel))) e1 hA
  have Z2 : va_Z "SwungShips" "WIND_Y" "[I" (.ref t2) (fun q => s.heap.size ≤ q) s s.heap := va_Zref (hts _ (List.mem_of_getElem? (i := 290) (by decide +kernel))) (hts _ (List.mem_of_getElem? (i := 52) (by decide +kernel))) e2 hA
  have A1 : va_AO "SwungShips$Harbour" s := va_AO.of (hts _ (List.mem_of_getElem? (i := 157) (by decide +kernel)))
  have A2 : va_AO "SwungShips$Image" s := va_AO.of (hts _ (List.mem_of_getElem? (i := 221) (by decide +kernel)))
  obtain ⟨c0, i0, k0⟩ := u_known htg ck_Book.2.1 (htg _ n_Book.1)
  obtain ⟨c1, i1, k1⟩ := u_known htg ck_Harb.2.1 (htg _ n_Harb.1)
  obtain ⟨c2, i2, k2⟩ := u_known htg ck_Hist.2.1 (htg _ n_Hist.1)
  obtain ⟨c3, i3, k3⟩ := u_known htg ck_Imag.2.1 (htg _ n_Imag.1)
  obtain ⟨c4, i4, k4⟩ := u_known htg ck_Sear.2.1 (htg _ n_Sear.1)
  obtain ⟨c5, i5, k5⟩ := u_known htg ck_Sw.2.1 (htg _ n_Sw.1)
  obtain ⟨c6, i6, k6⟩ := u_known htg ck_Mod.2.1 (htg _ n_Mod.1)
  obtain ⟨a10, r10, f10⟩ := ac_of2 (htg _ a_int)
  obtain ⟨a11, r11, f11⟩ := ac_of2 (htg _ a_long)
  obtain ⟨a12, r12, f12⟩ := ac_of2 (htg _ a_boolean)
  obtain ⟨a13, r13, f13⟩ := ao_of (va_AO.use (A := #[]) A1)
  obtain ⟨a14, r14, f14⟩ := ao_of (va_AO.use (A := #[]) A2)
  let g : GB := (s.heap.size, fun k => if k = 0 then b else if k = 1 then t1 else t2, (fun k => if k = 0 then c0 else if k = 1 then c1 else if k = 2 then c2 else if k = 3 then c3 else if k = 4 then c4 else if k = 5 then c5 else c6, fun k => if k = 0 then i0 else if k = 1 then i1 else if k = 2 then i2 else if k = 3 then i3 else if k = 4 then i4 else if k = 5 then i5 else i6), fun k => if k = 10 then a10 else if k = 11 then a11 else if k = 12 then a12 else if k = 13 then a13 else a14)
  have hK : va_K g.2.2.1 cls0 (tysOf g) s := by
    refine ⟨fun k q hq => ?_, fun k q hq => ?_⟩
    · have hk : k < 7 := (List.getElem?_eq_some_iff.mp hq).1
      have h7 : k = 0 ∨ k = 1 ∨ k = 2 ∨ k = 3 ∨ k = 4 ∨ k = 5 ∨ k = 6 := by omega
      rcases h7 with rfl | rfl | rfl | rfl | rfl | rfl | rfl
      · cases hq; exact k0
      · cases hq; exact k1
      · cases hq; exact k2
      · cases hq; exact k3
      · cases hq; exact k4
      · cases hq; exact k5
      · cases hq; exact k6
    · have hk : k < 5 := (List.getElem?_eq_some_iff.mp hq).1
      have h5 : k = 0 ∨ k = 1 ∨ k = 2 ∨ k = 3 ∨ k = 4 := by omega
      rcases h5 with rfl | rfl | rfl | rfl | rfl
      · cases hq; exact ⟨r10, f10⟩
      · cases hq; exact ⟨r11, f11⟩
      · cases hq; exact ⟨r12, f12⟩
      · cases hq; exact ⟨r13, f13⟩
      · cases hq; exact ⟨r14, f14⟩
  have TX : va_T .int b L (fun j => .int (nZ (xs ((j : Int)).toNat).toInt)) (fun q => s.heap.size ≤ q) s s.heap := by
    obtain ⟨scr, h1, h2, h3, h4, h5⟩ := hX
    refine ⟨scr, h1, h2, h3, by omega, by rw [h4], fun j hj => ?_, hA b hbl⟩
    rw [h5 j hj]
    show _ = some (Value.int (nZ (xs ((j : Int)).toNat).toInt))
    rw [Int.toNat_natCast, nZ_self]
  have hG : GOK g (L, fun z => (xs z.toNat).toInt) s := ⟨Nat.le_refl _, hK, Z1, T1, Z2, T2, TX, fun w hw => va_Nw.of (nestW_tab w hw) (hts w (nestW_in w hw)), A1, A2, by show L < 2147483648; omega⟩
  have hl := lv_entry ([Value.ref b]) (n := 4) (Nat.le_of_ble_eq_true rfl)
  rw [lg_entry_eq]
  refine law_start (xs := (L, fun z => (xs z.toNat).toInt)) (d := 0) (I := fun _ _ => 0) (L := fun _ _ => 0) (fun z => i32_rng _) hL l g p e room_1 s m _ below meth c _ s.heap [] 0 0 _ ⟨hx, hb, hml, hown, htg, fun h => absurd h (by decide), by decide, by decide, hG⟩ (by decide) (by decide) ⟨fun k q h => by simp [wsOf] at h, by decide, va_S.rf⟩ rfl hl ?_
  intro v X' I' L' H' locs' cells' slots' ls' pc' hp hc hsl hR hE hret
  obtain ⟨-, rfl⟩ := hp
  obtain ⟨hd, -⟩ := hret
  refine va_forget (fun q hq => hR.2.2.2.2 q hq) ?_
  refine W.widen (k := 600000) (n := 7302250) (by omega) (by omega) ?_
  have e3 : (some (vi 1)).toList.map (cv g) = [Value.int 1] := by
    show [Value.int (nZ 1)] = _
    rw [show nZ 1 = 1 by decide +kernel]
  rw [e3]
  exact lw_ret hx hb hr hlocks hd
